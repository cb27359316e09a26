section READS
variable {w v : Nat → Int32} {E : Nat → Nat → Nat → Int32} {J : Nat → Nat → Nat} {F : Nat → Nat → Int32} {nl nn nm nw nb nc np : Nat} {fp : Nat → Nat}
theorem CP.cv (h : CP w v E J F nl nn nm nw nb nc np fp) : CV (fun _ _ => True) E J F nn nc np fp := h.2.2.2.2.2.2.2.2.2.2
theorem CP.bar (h : CP w v E J F nl nn nm nw nb nc np fp) : barR E J F nb nm nw := h.2.2.2.2.2.2.2.2.2.1
theorem CP.nts (h : CP w v E J F nl nn nm nw nb nc np fp) : ∀ i, i < nn → nCp E F nl i := h.2.2.2.2.2.2.2.2.1
theorem CP.wid (h : CP w v E J F nl nn nm nw nb nc np fp) : ∀ j, j < nl → E 10 0 j = F 1 j ∧ iv 100 1000 (F 1 j) := h.2.2.2.2.2.2.2.1
theorem CP.cn (h : CP w v E J F nl nn nm nw nb nc np fp) : w 10 = nI nc ∧ v 19 = nI nc ∧ nc ≤ 40 := h.2.2.2.2.1
theorem CV.np2 {ok : Nat → Nat → Prop} (h : CV ok E J F nn nc np fp) : np ≤ 2 * nc := by
  have : ∀ m, m ≤ nc → fp m ≤ 2 * m := fun m => by
    induction m with
    | zero => intro _; rw [h.2.1]; exact Nat.le_refl _
    | succ m ih =>
      intro hm
      have h1 := ih (by omega)
      have h2 := (h.1 m (by omega)).2.2.2.2.2.2.2.2.2.2.2
      have := (pcN_le E J m).2
      omega
  rw [h.2.2.1]
  exact this nc (Nat.le_refl _)
theorem cur_nat (h : CP w v E J F nl nn nm nw nb nc np fp) {x : Int32} (hx : inB x 0 (w 10 - 1) = true) : ∃ c, c < nc ∧ x = nI c ∧ x.toNatClampNeg = c := by
  obtain ⟨c, h1, h2⟩ := inP_nat hx h.cn.1 (by have := h.cn.2.2; omega)
  exact ⟨c, h1, h2, by rw [h2, nI_clamp (by have := h.cn.2.2; omega)]⟩
theorem part_eq (h : CP w v E J F nl nn nm nw nb nc np fp) (x y : Int32) : rPart v F x y = xPart w E J x y := by
  unfold rPart xPart
  rw [h.cn.2.1, ← h.cn.1]
  by_cases c1 : inB x 0 (w 10 - 1) = true
  · obtain ⟨c, h1, h2, h3⟩ := cur_nat h c1
    rw [h3, (h.cv.1 c h1).2.2.2.2.2.2.2.2.2.2.1]
  · rw [Bool.not_eq_true] at c1
    rw [c1, Bool.false_and, Bool.false_and]
theorem part_nat (h : CP w v E J F nl nn nm nw nb nc np fp) {x y : Int32} (hx : xPart w E J x y = true) : ∃ c p, c < nc ∧ p < pcN E J c ∧ x = nI c ∧ y = nI p ∧ xI fp x y = fp c + p ∧ rK2 x y = 2 * c + p := by
  unfold xPart at hx
  rw [Bool.and_eq_true] at hx
  obtain ⟨c, h1, h2, h3⟩ := cur_nat h hx.1
  rw [h3] at hx
  have l := (pcN_le E J c).2
  have h40 := h.cn.2.2
  obtain ⟨p, h4, h5⟩ := inP_nat hx.2 rfl (by omega)
  refine ⟨c, p, h1, h4, h2, h5, ?_, ?_⟩
  · unfold xI; rw [h3, h5, nI_clamp (by omega)]
  · unfold rK2; rw [h3, h5, nI_clamp (by omega)]
theorem cp_curve (h : CP w v E J F nl nn nm nw nb nc np fp) (x k : Int32) : xCurve w E J x k = rCurve v F x k := by
  unfold xCurve rCurve
  rw [h.cn.2.1, ← h.cn.1]
  by_cases c1 : inB x 0 (w 10 - 1) = true
  · rw [if_pos c1, if_pos c1]
    obtain ⟨c, h1, h2, h3⟩ := cur_nat h c1
    have g := h.cv.1 c h1
    have n1 := h.nts _ g.1
    have n2 := h.nts _ g.2.1
    rw [h3, pcN_eq, n1.1, n2.1, g.2.2.1, g.2.2.2.1, g.2.2.2.2.2.2.2.1, g.2.2.2.2.2.1, g.2.2.2.2.2.2.2.2.2.2.1]
  · rw [if_neg c1, if_neg c1]
theorem cp_part (h : CP w v E J F nl nn nm nw nb nc np fp) (x y k : Int32) : xPartV w E J fp x y k = rPartV v F x y k := by
  unfold xPartV rPartV
  rw [part_eq h]
  by_cases c1 : xPart w E J x y = true
  · rw [if_pos c1, if_pos c1]
    obtain ⟨c, p, h1, h2, h3, h4, h5, h6⟩ := part_nat h c1
    obtain ⟨g0, g1⟩ := h.cv.2.2.2 c p h1 h2
    have g1 := g1 trivial
    have e6 : E 5 (fp c + p) 6 = rArch F (2 * c + p) := by rw [g0.2.2.2.2.2.2.2.2.2.2.2, arch_eq, g0.2.2.1, g0.2.2.2.2.1]
    have e9 : (if E 5 (fp c + p) 9 = 0 then (0 : Int32) else 1) = F 31 (2 * c + p) := by
      rw [g1.2.2.1]
      rcases g1.2.2.2.1 with z | z <;> rw [z] <;> rfl
    rw [h5, h6, g0.2.1, g1.1, bad_eq, e9, e6, nqc_eq, nqe h.cv h1 h2]
  · rw [if_neg c1, if_neg c1]
theorem row_eq (h : CP w v E J F nl nn nm nw nb nc np fp) {c p : Nat} (h1 : c < nc) (h2 : p < pcN E J c) (ax : Int32) {t : Nat} (ht : t < 4) : xRow E (fp c + p) ax t = if ax = 0 then rPx F (2 * c + p) (nI t) else rPy F (2 * c + p) (F 30 (2 * c + p)) (nI t) := by
  obtain ⟨g0, g1⟩ := h.cv.2.2.2 c p h1 h2
  have g1 := g1 trivial
  have l := (pcN_le E J c).2
  obtain ⟨e1, e2⟩ := pts_eq g0 (by omega) (h.cv.1 c h1).2.2.2.2.2.2.2.1 (F 30 (2 * c + p)) ht
  obtain ⟨f1, f2⟩ := g1.2.2.2.2.2 t ht
  unfold xRow
  by_cases z : ax = 0
  · rw [if_pos z, if_pos z, f1, e1]
  · rw [if_neg z, if_neg z, f2, e2, g1.1]
theorem cp_point (h : CP w v E J F nl nn nm nw nb nc np fp) (x y i ax : Int32) : xPoint w E J fp x y i ax = rPoint v F x y i ax := by
  unfold xPoint rPoint
  rw [part_eq h]
  by_cases c1 : xPart w E J x y = true
  · rw [if_pos c1, if_pos c1]
    by_cases c2 : inB i 0 3 = true ∧ inB ax 0 1 = true
    · rw [if_pos c2, if_pos c2]
      obtain ⟨c, p, h1, h2, h3, h4, h5, h6⟩ := part_nat h c1
      obtain ⟨t, ht, e⟩ := inB_nat c2.1 (n := 3) rfl (by decide)
      rw [h5, h6, e, nI_clamp (by omega)]
      exact row_eq h h1 h2 ax (by omega)
    · rw [if_neg c2, if_neg c2]
  · rw [if_neg c1, if_neg c1]
theorem cp_along (h : CP w v E J F nl nn nm nw nb nc np fp) (x y n ax : Int32) : xAlong w E J fp x y n ax = rAlong v F x y n ax := by
  unfold xAlong rAlong
  rw [part_eq h]
  by_cases c1 : xPart w E J x y = true
  · rw [if_pos c1, if_pos c1]
    by_cases c2 : inB n 0 64 = true ∧ inB ax 0 1 = true
    · rw [if_pos c2, if_pos c2]
      obtain ⟨c, p, h1, h2, h3, h4, h5, h6⟩ := part_nat h c1
      have hn := inB_iv c2.1
      have c64 : (64 : Int32).toInt = 64 := rfl
      have c0 : (0 : Int32).toInt = 0 := rfl
      have l64 : (64 : Int64).toInt = 64 := rfl
      have e : (64 - n).toInt64 = 64 - n.toInt64 := by
        apply Int64.toInt_inj.mp
        rw [Int32.toInt_toInt64, i_sub (by rw [c64]; unfold bd; omega), l_sub (by rw [l64, Int32.toInt_toInt64]; unfold bd; omega), Int32.toInt_toInt64, c64, l64]
      have r0 := row_eq h h1 h2 ax (t := 0) (by omega)
      have r1 := row_eq h h1 h2 ax (t := 1) (by omega)
      have r2 := row_eq h h1 h2 ax (t := 2) (by omega)
      have r3 := row_eq h h1 h2 ax (t := 3) (by omega)
      have s : alS F (2 * c + p) n ax 4 = 0 + (64 - n.toInt64) * (64 - n.toInt64) * (64 - n.toInt64) * (xRow E (fp c + p) ax 0).toInt64 + 3 * (64 - n.toInt64) * (64 - n.toInt64) * n.toInt64 * (xRow E (fp c + p) ax 1).toInt64 + 3 * (64 - n.toInt64) * n.toInt64 * n.toInt64 * (xRow E (fp c + p) ax 2).toInt64 + n.toInt64 * n.toInt64 * n.toInt64 * (xRow E (fp c + p) ax 3).toInt64 := by
        rw [r0, r1, r2, r3, ← e]
        rfl
      rw [h5, h6, s]
      unfold xPoly
      grind
    · rw [if_neg c2, if_neg c2]
  · rw [if_neg c1, if_neg c1]
theorem cp_within (h : CP w v E J F nl nn nm nw nb nc np fp) (x y z u : Int32) : xWithin w E J fp x y z u = rWithinV v F x y z u := by
  unfold xWithin rWithinV
  rw [part_eq h, part_eq h]
  by_cases c1 : xPart w E J x y = true ∧ xPart w E J z u = true
  · rw [if_pos c1, if_pos c1]
    obtain ⟨c, p, h1, h2, h3, h4, h5, h6⟩ := part_nat h c1.1
    obtain ⟨c2, p2, g1, g2, g3, g4, g5, g6⟩ := part_nat h c1.2
    rw [h5, h6, g5, g6, win_eq h.cv h.cn.2.2 g1 g2 h1 h2]
  · rw [if_neg c1, if_neg c1]
theorem co_eq (h : CP w v E J F nl nn nm nw nb nc np fp) : ∀ m, m ≤ nc → coS F (2 * m) = nI (cnt (xCo E) (fp m)) := by
  have hC := h.cv
  have one : ∀ c p, c < nc → p < pcN E J c → F 31 (2 * c + p) = nI (if xCo E (fp c + p) = true then 1 else 0) := fun c p h1 h2 => by
    obtain ⟨g0, g1⟩ := hC.2.2.2 c p h1 h2
    have g1 := g1 trivial
    unfold xCo
    rw [g1.2.2.1]
    rcases g1.2.2.2.1 with z | z <;> rw [z] <;> rfl
  intro m
  induction m with
  | zero => intro _; rw [hC.2.1]; rfl
  | succ m ih =>
    intro hm
    have g := hC.1 m (by omega)
    have i0 := ih (by omega)
    rw [g.2.2.2.2.2.2.2.2.2.2.2, show 2 * (m + 1) = 2 * m + 1 + 1 by omega, coS, coS, show (2 * m + 1) / 2 = m by omega, show (2 * m + 1) % 2 = 1 by omega, show 2 * m / 2 = m by omega, show 2 * m % 2 = 0 by omega, g.2.2.2.2.2.2.2.2.2.2.1, i0]
    have l0 : ¬ nI (pcN E J m) ≤ nI 0 := by
      have := pcN_le E J m
      rw [nI_leI (by omega) (by omega)]; omega
    have o1 := one m 0 (by omega) (by have := pcN_le E J m; omega)
    rw [Nat.add_zero, Nat.add_zero] at o1
    rw [if_neg l0, o1]
    rcases (show pcN E J m = 1 ∨ pcN E J m = 2 by have := pcN_le E J m; omega) with z | z
    · rw [z, if_pos (show nI 1 ≤ nI 1 by decide), cnt, nI_add]
      show nI _ + nI 0 = _
      rw [nI_add, Nat.add_zero]
    · have o2 := one m 1 (by omega) (by omega)
      rw [z, if_neg (show ¬ nI 2 ≤ nI 1 by decide), o2, show fp m + 2 = fp m + 1 + 1 from rfl, cnt, cnt, nI_add, nI_add]
theorem cp_count (h : CP w v E J F nl nn nm nw nb nc np fp) (k : Int32) : xCount w E np k = rCount v F nc k := by
  unfold xCount rCount
  rw [co_eq h nc (Nat.le_refl _), ← h.cv.2.2.1]
  obtain ⟨⟨a1, a2, -⟩, ⟨b1, b2, -⟩, ⟨c1, c2, -⟩, ⟨d1, d2, -⟩, ⟨e1, e2, -⟩, -⟩ := h
  rw [a1, a2, b1, b2, c1, c2, d1, d2, e1, e2]
theorem i3 {k : Int32} : (k.toInt = 0 ↔ k = 0) ∧ (k.toInt = 1 ↔ k = 1) ∧ (k.toInt = 2 ↔ k = 2) := by
  refine ⟨⟨fun h => Int32.toInt_inj.mp h, fun h => by rw [h]; rfl⟩, ⟨fun h => Int32.toInt_inj.mp h, fun h => by rw [h]; rfl⟩, ⟨fun h => Int32.toInt_inj.mp h, fun h => by rw [h]; rfl⟩⟩
theorem cp_cand (h : CP w v E J F nl nn nm nw nb nc np fp) (x y q k : Int32) : xCand w E J fp nb np x y q k = rCandV v F nm nw nc x y q k := by
  unfold xCand rCandV
  rw [part_eq h]
  by_cases c1 : xPart w E J x y = true
  · rw [if_pos c1, if_pos c1]
    obtain ⟨c, p, h1, h2, h3, h4, h5, h6⟩ := part_nat h c1
    have hq := nqe h.cv h1 h2
    have hle := nqc_le (E 4 (J 3 (fp c + p)))
    rw [h5, h6, nqc_eq, hq]
    rw [hq] at hle
    by_cases c2 : inB q 0 (nI (nq F (2 * c + p)) - 1) = true
    · rw [if_pos c2]
      obtain ⟨n, g1, g2⟩ := inP_nat c2 rfl (by omega)
      have e1 := bars_eq h.cv h1 h2 (n := n) (by omega) nb nm nw h.bar
      have e2 := hulls_eq h.cv h.cn.2.2 h1 h2 (n := n) (by omega) (fun _ _ _ _ => trivial)
      have l1 := cnt_le (xBq E J (fp c + p) (nI n)) nb
      have l2 := cnt_le (xHq E J (fp c + p) (nI n)) np
      have lnp := h.cv.np2
      have l40 := h.cn.2.2
      have hnb : nb ≤ 52 := by
        obtain ⟨-, -, ⟨-, -, m3⟩, ⟨-, -, d3⟩, -, -, e2, -⟩ := h
        omega
      obtain ⟨k0, k1, k2⟩ := i3 (k := k)
      by_cases z0 : k = 0
      · subst z0
        rw [if_pos (by decide), if_pos ⟨c2, by decide⟩, if_pos rfl, g2, Nat.min_eq_left (by omega), e1]
      · by_cases z1 : k = 1
        · subst z1
          rw [if_neg (by decide), if_pos (by decide), if_pos ⟨c2, by decide⟩, if_neg (by decide), if_pos rfl, g2, Nat.min_eq_left (by omega), e2]
        · by_cases z2 : k = 2
          · subst z2
            rw [if_neg (by decide), if_neg (by decide), if_pos (by decide), if_pos ⟨c2, by decide⟩, if_neg (by decide), if_neg (by decide), bad_eq]
          · rw [if_neg (fun a => z0 (k0.mp a)), if_neg (fun a => z1 (k1.mp a)), if_neg (fun a => z2 (k2.mp a)), if_neg (fun a => ?_)]
            have b := inB_iv a.2
            have b0 : (0 : Int32).toInt = 0 := rfl
            have b2 : (2 : Int32).toInt = 2 := rfl
            rcases (show k.toInt = 0 ∨ k.toInt = 1 ∨ k.toInt = 2 by omega) with y | y | y
            · exact z0 (k0.mp y)
            · exact z1 (k1.mp y)
            · exact z2 (k2.mp y)
    · rw [if_neg c2, if_neg (fun a => c2 a.1)]
  · rw [if_neg c1, if_neg c1]
theorem CP.trial {E2 : Nat → Nat → Nat → Int32} (h : CP w v E J F nl nn nm nw nb nc np fp) (hE : xEq E E2) : CP w v E2 J F nl nn nm nw nb nc np fp := by
  obtain ⟨a, b, c, d, e, f, g, hL, hN, hB, hC⟩ := h
  refine ⟨a, b, c, d, e, f, g, fun j hj => by rw [hE 10 (by decide)]; exact hL j hj, fun i hi => ?_, barR_cg (fun q _ => ⟨rfl, by rw [hE 1 (by decide)], by rw [hE 2 (by decide)], by rw [hE 3 (by decide)]⟩) (fun _ _ _ _ _ => rfl) (fun _ _ _ _ _ => rfl) hB, hC.cg (fun i _ => by rw [hE 0 (by decide)]) (fun k _ _ => hE k (by omega)) (fun _ _ _ => rfl) (fun _ _ _ => rfl) (Nat.le_refl _)⟩
  have q := hN i hi
  unfold nCp at q ⊢
  rw [hE 0 (by decide)]
  exact q
theorem cp_zero (w2 v2 : Nat → Int32) (E2 : Nat → Nat → Nat → Int32) (J2 : Nat → Nat → Nat) (F2 : Nat → Nat → Int32) (hw : ∀ k, 6 ≤ k → k ≤ 11 → w2 k = 0) (hv : v2 0 = 0 ∧ v2 2 = 0 ∧ v2 7 = 0 ∧ v2 13 = 0 ∧ v2 19 = 0) : CP w2 v2 E2 J2 F2 0 0 0 0 0 0 0 (fun _ => 0) :=
  ⟨⟨hw 6 (by omega) (by omega), hv.1, by omega⟩, ⟨hw 7 (by omega) (by omega), hv.2.1, by omega⟩, ⟨hw 8 (by omega) (by omega), hv.2.2.1, by omega⟩, ⟨hw 9 (by omega) (by omega), hv.2.2.2.1, by omega⟩, ⟨hw 10 (by omega) (by omega), hv.2.2.2.2, by omega⟩, hw 11 (by omega) (by omega), rfl, fun _ h => absurd h (Nat.not_lt_zero _), fun _ h => absurd h (Nat.not_lt_zero _), ⟨rfl, rfl⟩, ⟨fun _ h => absurd h (Nat.not_lt_zero _), rfl, rfl, fun _ _ h => absurd h (Nat.not_lt_zero _)⟩⟩
theorem xZero_0 (w : Nat → Int32) (k : Nat) (h1 : 6 ≤ k) (h2 : k ≤ 11) : xZero w k = 0 := by
  unfold xZero va_up
  rcases (show k = 6 ∨ k = 7 ∨ k = 8 ∨ k = 9 ∨ k = 10 ∨ k = 11 by omega) with rfl | rfl | rfl | rfl | rfl | rfl <;> rfl
theorem rClear_0 (v : Nat → Int32) : rClear v 0 = 0 ∧ rClear v 2 = 0 ∧ rClear v 7 = 0 ∧ rClear v 13 = 0 ∧ rClear v 19 = 0 := by
  unfold rClear va_up
  exact ⟨rfl, rfl, rfl, rfl, rfl⟩
theorem cp_again {E2 : Nat → Nat → Nat → Int32} {n : Nat} (h : CP w v E J F nl nn nm nw nb nc np fp) (hag : agR E J nb np np E2 n) : n = (agO F nm nw nc (pcN E J) nc).2 ∧ CP w v E2 J (agO F nm nw nc (pcN E J) nc).1 nl nn nm nw nb nc np fp := by
  have hnp := h.cv.2.2.1
  have g := CV.again h.cv h.cn.2.2 h.bar nc (Nat.le_refl _) 0 E2 n (Nat.zero_le _) (by rw [Nat.add_zero, ← hnp]; exact hag)
  obtain ⟨g1, g2, g3, g4⟩ := g
  have g1 : CV (fun _ _ => True) E2 J (agO F nm nw nc (pcN E J) nc).1 nn nc np fp := g1
  have g2 : barR E2 J (agO F nm nw nc (pcN E J) nc).1 nb nm nw := g2
  have keep : ∀ k, k ≠ 30 → k ≠ 31 → (agO F nm nw nc (pcN E J) nc).1 k = F k := fun k a b => by
    have i1 : ∀ (c p : Nat) (s : (Nat → Nat → Int32) × Nat), (agI nm nw nc c s p).1 k = s.1 k := fun c p s => by
      induction p with
      | zero => rfl
      | succ p ih => rw [agI]; show rChoose _ _ _ _ _ k = _; rw [rChoose_ne _ _ _ _ _ a b, ih]
    have i2 : ∀ m, (agO F nm nw nc (pcN E J) m).1 k = F k := fun m => by
      induction m with
      | zero => rfl
      | succ m ih => rw [agO, i1, ih]
    exact i2 nc
  refine ⟨g4, ?_⟩
  obtain ⟨a, b, c, d, e, f, q, hL, hN, hB, hC⟩ := h
  refine ⟨a, b, c, d, e, f, q, fun j hj => ?_, fun i hi => ?_, g2, g1⟩
  · rw [g3 10 (by decide) (by decide) (by decide) (by decide) (by decide), keep 1 (by decide) (by decide)]
    exact hL j hj
  · have z := hN i hi
    unfold nCp at z ⊢
    rw [g3 0 (by decide) (by decide) (by decide) (by decide) (by decide), keep 3 (by decide) (by decide), keep 4 (by decide) (by decide), keep 5 (by decide) (by decide), keep 6 (by decide) (by decide)]
    exact z
end READS

theorem ps_old (E : Nat → Nat → Nat → Int32) (J : Nat → Nat → Nat) (np j la : Nat) {i : Nat} (h : i < np) : (xAddPs E J np j la).1 5 i = E 5 i ∧ (xAddPs E J np j la).1 6 i = E 6 i ∧ (xAddPs E J np j la).1 7 i = E 7 i ∧ (xAddPs E J np j la).1 8 i = E 8 i ∧ (xAddPs E J np j la).2 3 i = J 3 i := by
  unfold xAddPs
  split
  · show xAp E E J np j la 0 5 i = _ ∧ xAp E E J np j la 0 6 i = _ ∧ xAp E E J np j la 0 7 i = _ ∧ xAp E E J np j la 0 8 i = _ ∧ xAddPJ J np j 3 i = _
    unfold xAp
    rw [xAddP_5, xAddP_6, xAddP_7, xAddP_8, xAddPJ_3, va_up_ne _ _ (by omega), va_up_ne _ _ (by omega), va_up_ne _ _ (by omega), va_up_ne _ _ (by omega), va_up_ne _ _ (by omega)]
    exact ⟨rfl, rfl, rfl, rfl, rfl⟩
  · show xAp (xAp E E J np j la 0) E J (np + 1) j la 1 5 i = _ ∧ xAp (xAp E E J np j la 0) E J (np + 1) j la 1 6 i = _ ∧ xAp (xAp E E J np j la 0) E J (np + 1) j la 1 7 i = _ ∧ xAp (xAp E E J np j la 0) E J (np + 1) j la 1 8 i = _ ∧ xAddPJ (xAddPJ J np j) (np + 1) j 3 i = _
    unfold xAp
    rw [xAddP_5, xAddP_6, xAddP_7, xAddP_8, xAddPJ_3, va_up_ne _ _ (by omega), va_up_ne _ _ (by omega), va_up_ne _ _ (by omega), va_up_ne _ _ (by omega), va_up_ne _ _ (by omega)]
    rw [xAddP_5, xAddP_6, xAddP_7, xAddP_8, xAddPJ_3, va_up_ne _ _ (by omega), va_up_ne _ _ (by omega), va_up_ne _ _ (by omega), va_up_ne _ _ (by omega), va_up_ne _ _ (by omega)]
    exact ⟨rfl, rfl, rfl, rfl, rfl⟩
theorem ps_new (E : Nat → Nat → Nat → Int32) (J : Nat → Nat → Nat) (np j la : Nat) {p : Nat} (h : p < pcN E J j) : (xAddPs E J np j la).1 5 (np + p) = xPq E J j la p ∧ (xAddPs E J np j la).2 3 (np + p) = j := by
  have hl := pcN_le E J j
  unfold xAddPs
  by_cases z : pcN E J j = 1
  · rw [if_pos z]
    have hp : p = 0 := by omega
    subst hp
    show xAp E E J np j la 0 5 np = _ ∧ xAddPJ J np j 3 np = _
    unfold xAp
    rw [xAddP_5, xAddPJ_3, va_up_self, va_up_self]
    exact ⟨rfl, rfl⟩
  · rw [if_neg z]
    show xAp (xAp E E J np j la 0) E J (np + 1) j la 1 5 (np + p) = _ ∧ xAddPJ (xAddPJ J np j) (np + 1) j 3 (np + p) = _
    unfold xAp
    rw [xAddP_5, xAddPJ_3]
    rcases (show p = 0 ∨ p = 1 by omega) with rfl | rfl
    · rw [va_up_ne _ _ (by omega), va_up_ne _ _ (by omega), xAddP_5, xAddPJ_3, Nat.add_zero, va_up_self, va_up_self]
      exact ⟨rfl, rfl⟩
    · rw [va_up_self, va_up_self]
      exact ⟨rfl, rfl⟩
/-- the reference's state with a new curve -/
def rF3 (F : Nat → Nat → Int32) (nn nc a b la : Nat) (t : Int32) : Nat → Nat → Int32 := rLayOut (sF (sF (sF F 20 nc (nI a)) 21 nc (nI b)) 22 nc t) nn nc a b la
theorem rF3_o (F : Nat → Nat → Int32) (nn nc a b la : Nat) (t : Int32) {k : Nat} (h : k < 20 ∨ 29 < k) : rF3 F nn nc a b la t k = F k := by
  unfold rF3
  rw [rLO]
  split
  · rw [rLay_ne _ _ _ _ _ _ _ (by omega), rG_o _ _ _ _ _ _ (by omega)]
  · rw [rLay_ne _ _ _ _ _ _ _ (by omega), rLay_ne _ _ _ _ _ _ _ (by omega), rG_o _ _ _ _ _ _ (by omega)]
theorem rF3_g (F : Nat → Nat → Int32) (nn nc a b la : Nat) (t : Int32) {k : Nat} (h : k < 25 ∨ 29 < k) : rF3 F nn nc a b la t k = rG F nn nc a b t k := by
  unfold rF3
  rw [rLO]
  split
  · rw [rLay_ne _ _ _ _ _ _ _ h]
  · rw [rLay_ne _ _ _ _ _ _ _ h, rLay_ne _ _ _ _ _ _ _ h]
theorem rF3_k (F : Nat → Nat → Int32) (nn nc a b la : Nat) (t : Int32) {k m : Nat} (hk : 25 ≤ k) (h : m < 2 * nc) : rF3 F nn nc a b la t k m = F k m := by
  unfold rF3
  rw [rLO]
  split
  · rw [rLay_k _ _ _ _ _ _ (by omega), rG_o _ _ _ _ _ _ (by omega)]
  · rw [rLay_k _ _ _ _ _ _ (by omega), rLay_k _ _ _ _ _ _ (by omega), rG_o _ _ _ _ _ _ (by omega)]
theorem rF3_p (F : Nat → Nat → Int32) (nn nc a b la : Nat) (t : Int32) {p : Nat} (hp : p < pmN F a b) : ∃ q, q = (if pmN F a b = 1 then pa9 (F 3 a) (F 4 a + xl t) (F 5 a + rEd F nn nc a b t a) (F 4 b - xl t) (F 5 b + rEd F nn nc a b t b) else if p = 0 then pa9 (F 3 a) (F 4 a + xl t) (F 5 a + rEd F nn nc a b t a) (F 1 la) (F 5 a + rEd F nn nc a b t a) else pa9 (F 3 b) 0 (F 5 b + rEd F nn nc a b t b) (F 4 b - xl t) (F 5 b + rEd F nn nc a b t b)) ∧ rF3 F nn nc a b la t 25 (2 * nc + p) = q 1 ∧ rF3 F nn nc a b la t 26 (2 * nc + p) = q 2 ∧ rF3 F nn nc a b la t 27 (2 * nc + p) = q 3 ∧ rF3 F nn nc a b la t 28 (2 * nc + p) = q 4 ∧ rF3 F nn nc a b la t 29 (2 * nc + p) = q 5 := by
  refine ⟨_, rfl, ?_⟩
  have hl := pmN_le F a b
  unfold rF3
  rw [rLO]
  by_cases z : F 3 a = F 3 b
  · have h1 : pmN F a b = 1 := by unfold pmN; rw [if_pos z]
    have h0 : p = 0 := by omega
    subst h0
    rw [if_pos z, if_pos h1]
    exact rLay_v _ _ _ _ _ _ _
  · have h1 : pmN F a b = 2 := by unfold pmN; rw [if_neg z]
    rw [if_neg z, if_neg (by omega)]
    rcases (show p = 0 ∨ p = 1 by omega) with rfl | rfl
    · rw [if_pos rfl]
      obtain ⟨r1, r2, r3, r4, r5⟩ := rLay_v (rG F nn nc a b t) (2 * nc) (F 3 a) (F 4 a + xl t) (F 5 a + rEd F nn nc a b t a) (F 1 la) (F 5 a + rEd F nn nc a b t a)
      exact ⟨(rLay_k _ _ _ _ _ _ (by omega)).trans r1, (rLay_k _ _ _ _ _ _ (by omega)).trans r2, (rLay_k _ _ _ _ _ _ (by omega)).trans r3, (rLay_k _ _ _ _ _ _ (by omega)).trans r4, (rLay_k _ _ _ _ _ _ (by omega)).trans r5⟩
    · rw [if_neg (by decide)]
      exact rLay_v _ _ _ _ _ _ _
section NEWD
variable {E : Nat → Nat → Nat → Int32} {J : Nat → Nat → Nat} {F : Nat → Nat → Int32} {nl nn nc np a b la : Nat} {fp : Nat → Nat} {t : Int32}
theorem cv_new (h : CV (fun _ _ => True) E J F nn nc np fp) (hN : ∀ i, i < nn → nCp E F nl i) (hL : ∀ j, j < nl → E 10 0 j = F 1 j ∧ iv 100 1000 (F 1 j)) (hl4 : nl ≤ 4) (ha : a < nn) (hb : b < nn) (hla : F 3 a = nI la) (hl : la < nl) (hmay : rMay F a b la = true) (ht : t = 0 ∨ t = 1) : CV (fun c _ => c < nc) (xAddPs (xE1 E nn nc np a b t) (xAddCJ J nc a b) np nc la).1 (xAddPs (xE1 E nn nc np a b t) (xAddCJ J nc a b) np nc la).2 (rF3 F nn nc a b la t) nn (nc + 1) (np + pmN F a b) (va_up fp (nc + 1) (np + pmN F a b)) := by
  have hpc := pc_new (J := J) (nc := nc) (np := np) (t := t) hN ha hb
  have hnp := h.2.2.1
  have y0 : (xAddPs (xE1 E nn nc np a b t) (xAddCJ J nc a b) np nc la).1 0 = E 0 := by rw [xAddPs_o _ _ _ _ _ (by decide) (by decide) (by decide) (by decide)]; exact xAddC_o _ _ _ (by decide)
  have y4 : (xAddPs (xE1 E nn nc np a b t) (xAddCJ J nc a b) np nc la).1 4 = va_up (E 4) nc (cu6 (nI nc) t (xSide E nn a b t) (nI np)) := by rw [xAddPs_o _ _ _ _ _ (by decide) (by decide) (by decide) (by decide)]; exact xAddC_4 _ _ _
  have j1 : (xAddPs (xE1 E nn nc np a b t) (xAddCJ J nc a b) np nc la).2 1 = va_up (J 1) nc a := by rw [xAddPs_J _ _ _ _ _ (by decide)]; exact xAddCJ_1 _ _ _ _
  have j2 : (xAddPs (xE1 E nn nc np a b t) (xAddCJ J nc a b) np nc la).2 2 = va_up (J 2) nc b := by rw [xAddPs_J _ _ _ _ _ (by decide)]; exact xAddCJ_2 _ _ _ _
  have zp : ∀ c, c < nc → pcN (xAddPs (xE1 E nn nc np a b t) (xAddCJ J nc a b) np nc la).1 (xAddPs (xE1 E nn nc np a b t) (xAddCJ J nc a b) np nc la).2 c = pcN E J c := fun c hc => pcN_cg y0 (by rw [j1, va_up_ne _ _ (by omega)]) (by rw [j2, va_up_ne _ _ (by omega)])
  have zn : pcN (xAddPs (xE1 E nn nc np a b t) (xAddCJ J nc a b) np nc la).1 (xAddPs (xE1 E nn nc np a b t) (xAddCJ J nc a b) np nc la).2 nc = pmN F a b := by
    rw [← hpc]
    exact pcN_cg (xAddPs_o _ _ _ _ _ (by decide) (by decide) (by decide) (by decide)) (by rw [xAddPs_J _ _ _ _ _ (by decide)]) (by rw [xAddPs_J _ _ _ _ _ (by decide)])
  have po := fun i (hi : i < np) => ps_old (xE1 E nn nc np a b t) (xAddCJ J nc a b) np nc la hi
  have pn := fun p (hp : p < pmN F a b) => ps_new (xE1 E nn nc np a b t) (xAddCJ J nc a b) np nc la (p := p) (by rw [hpc]; exact hp)
  have eo : ∀ k, k ≠ 4 → xE1 E nn nc np a b t k = E k := fun k hk => xAddC_o _ _ _ hk
  have jo : xAddCJ J nc a b 3 = J 3 := xAddCJ_o _ _ _ _ (by decide) (by decide)
  generalize xAddPs (xE1 E nn nc np a b t) (xAddCJ J nc a b) np nc la = P at *
  obtain ⟨v20, v21, v22, v23, v24⟩ := rG_v F nn nc a b t
  have hF : ∀ k c, 20 ≤ k → k ≤ 24 → c < nc → rF3 F nn nc a b la t k c = F k c := fun k c g1 g2 hc => by rw [rF3_g _ _ _ _ _ _ _ (by omega), rG_k _ _ _ _ _ _ (by omega)]
  have hfo : ∀ c, c ≤ nc → va_up fp (nc + 1) (np + pmN F a b) c = fp c := fun c hc => va_up_ne _ _ (by omega)
  refine ⟨fun c hc => ?_, by rw [hfo 0 (by omega)]; exact h.2.1, (va_up_self _ _ _).symm, fun c p hc hp => ?_⟩
  · unfold cCp
    by_cases z : c = nc
    · subst z
      rw [zn, j1, j2, y4, va_up_self, va_up_self, va_up_self, rF3_g _ _ _ _ _ _ _ (k := 20) (by omega), rF3_g _ _ _ _ _ _ _ (k := 21) (by omega), rF3_g _ _ _ _ _ _ _ (k := 22) (by omega), rF3_g _ _ _ _ _ _ _ (k := 23) (by omega), rF3_g _ _ _ _ _ _ _ (k := 24) (by omega), v20, v21, v22, v23, v24, va_up_self, hfo c (Nat.le_refl _), ← hnp]
      exact ⟨ha, hb, rfl, rfl, rfl, rfl, ht, side_eq hN ha hb c t, rSd_s _ _ _ _ _ _, rfl, rfl, rfl⟩
    · have hc2 : c < nc := by omega
      have g := h.1 c hc2
      rw [zp c hc2, j1, j2, y4, va_up_ne _ _ z, va_up_ne _ _ z, va_up_ne _ _ z, hF 20 c (by omega) (by omega) hc2, hF 21 c (by omega) (by omega) hc2, hF 22 c (by omega) (by omega) hc2, hF 23 c (by omega) (by omega) hc2, hF 24 c (by omega) (by omega) hc2, hfo c (by omega), hfo (c + 1) (by omega)]
      exact g
  · by_cases z : c = nc
    · subst z
      rw [zn] at hp
      rw [hfo c (Nat.le_refl _), ← hnp]
      refine ⟨?_, fun q => absurd q (Nat.lt_irrefl _)⟩
      obtain ⟨q1, q2⟩ := pn p hp
      obtain ⟨e1, e2⟩ := parts_new (J := J) (nc := c) (np := np) (t := t) hN hL ha hb hla hl hmay hl4 hp
      obtain ⟨qq, f0, f1, f2, f3, f4, f5⟩ := rF3_p F nn c a b la t hp
      unfold pC0
      rw [q1, q2, f1, f2, f3, f4, f5, f0, ← e1]
      exact ⟨rfl, rfl, rfl, rfl, rfl, rfl, e2⟩
    · have hc2 : c < nc := by omega
      rw [zp c hc2] at hp
      have g := h.2.2.2 c p hc2 hp
      have hi := h.lt hc2 hp
      have l := (pcN_le E J c).2
      obtain ⟨p5, p6, p7, p8, pj⟩ := po _ hi
      rw [hfo c (by omega)]
      have hk : 2 * c + p < 2 * nc := by omega
      refine ⟨?_, fun _ => ?_⟩
      · have g0 := g.1
        unfold pC0 at g0 ⊢
        rw [pj, jo, p5, eo 5 (by decide), rF3_k _ _ _ _ _ _ _ (by omega) hk, rF3_k _ _ _ _ _ _ _ (by omega) hk, rF3_k _ _ _ _ _ _ _ (by omega) hk, rF3_k _ _ _ _ _ _ _ (by omega) hk, rF3_k _ _ _ _ _ _ _ (by omega) hk]
        exact g0
      · have g1 := g.2 trivial
        unfold pC1 at g1 ⊢
        rw [p5, p6, p7, p8, eo 5 (by decide), eo 6 (by decide), eo 7 (by decide), eo 8 (by decide), y4, va_up_ne _ _ z, rF3_k _ _ _ _ _ _ _ (by omega) hk, rF3_k _ _ _ _ _ _ _ (by omega) hk]
        exact g1
end NEWD
theorem cp_comes {w v w2 v2 : Nat → Int32} {E E2 : Nat → Nat → Nat → Int32} {J J2 : Nat → Nat → Nat} {F F2 : Nat → Nat → Int32} {nl nn nm nw nb nc np nc2 np2 : Nat} {fp : Nat → Nat} {r s p1 p2 t : Int32} (h : CP w v E J F nl nn nm nw nb nc np fp) (ht : t = 0 ∨ t = 1) (hx : xAC w E J nn nb nc np p1 p2 t r w2 E2 J2 nc2 np2) (hr : (s, v2, F2) = rComes v F nn nm nw nc p1 p2 t) : r = s ∧ ∃ fp2, CP w2 v2 E2 J2 F2 nl nn nm nw nb nc2 np2 fp2 := by
  obtain ⟨⟨a1, a2, a3⟩, ⟨b1, b2, b3⟩, ⟨m1, m2, m3⟩, ⟨d1, d2, d3⟩, ⟨c1, c2, c3⟩, e1, e2, hL, hN, hB, hC⟩ := h
  have hold : CP w v E J F nl nn nm nw nb nc np fp := ⟨⟨a1, a2, a3⟩, ⟨b1, b2, b3⟩, ⟨m1, m2, m3⟩, ⟨d1, d2, d3⟩, ⟨c1, c2, c3⟩, e1, e2, hL, hN, hB, hC⟩
  unfold xAC at hx
  unfold rComes at hr
  rw [b1] at hx
  rw [b2] at hr
  by_cases k1 : inB p1 0 (nI nn - 1) = true ∧ inB p2 0 (nI nn - 1) = true
  · rw [if_pos k1] at hx hr
    obtain ⟨a, ha, ea⟩ := inP_nat k1.1 rfl (by omega)
    obtain ⟨b, hb, eb⟩ := inP_nat k1.2 rfl (by omega)
    have ca : p1.toNatClampNeg = a := by rw [ea, nI_clamp (by omega)]
    have cb : p2.toNatClampNeg = b := by rw [eb, nI_clamp (by omega)]
    rw [ca, cb] at hx hr
    have na := hN a ha
    have nb9 := hN b hb
    obtain ⟨la, hl, hla⟩ := na.2.2.2.2.2.2.1
    obtain ⟨lb, hlb, hlb2⟩ := nb9.2.2.2.2.2.2.1
    have cl : (E 0 a 1).toNatClampNeg = la := by rw [na.2.1, hla, nI_clamp (by omega)]
    have cl2 : (F 3 a).toNatClampNeg = la := by rw [hla, nI_clamp (by omega)]
    have hN4 : ∀ i, i < nn → E 0 i 1 = F 3 i ∧ E 0 i 2 = F 4 i ∧ E 0 i 3 = F 5 i ∧ E 0 i 4 = F 6 i := fun i hi => ⟨(hN i hi).2.1, (hN i hi).2.2.1, (hN i hi).2.2.2.1, (hN i hi).2.2.2.2.1⟩
    rw [cl, join_eq hN4 ha hb hla hlb2 (by omega) (by omega) (hL la hl).1, na.2.2.2.1, nb9.2.2.2.1] at hx
    rw [cl2] at hr
    by_cases k2 : rMay F a b la = true ∧ (t = 0 ∨ F 5 a = F 5 b)
    · rw [if_pos k2] at hx hr
      by_cases k3 : nc < 40
      · rw [if_pos k3] at hx
        rw [if_neg (by omega)] at hr
        obtain ⟨x1, x2, x3, x4, x5, x6⟩ := hx
        rw [cl, pc_new (J := J) hN ha hb] at x6
        rw [pc_new (J := J) hN ha hb] at x3
        rw [cl] at x5
        cases hr
        have hV := cv_new (t := t) hC hN hL a3 ha hb hla hl k2.1 ht
        subst x1 x2 x3 x5
        refine ⟨rfl, va_up fp (nc + 1) (np + pmN F a b), ?_⟩
        have hpn := pc_new (J := J) (nc := nc) (np := np) (t := t) hN ha hb
        have y0 : (xAddPs (xE1 E nn nc np a b t) (xAddCJ J nc a b) np nc la).1 0 = E 0 := by rw [xAddPs_o _ _ _ _ _ (by decide) (by decide) (by decide) (by decide)]; exact xAddC_o _ _ _ (by decide)
        have zn : pcN (xAddPs (xE1 E nn nc np a b t) (xAddCJ J nc a b) np nc la).1 (xAddPs (xE1 E nn nc np a b t) (xAddCJ J nc a b) np nc la).2 nc = pmN F a b := by
          rw [← hpn]
          exact pcN_cg (xAddPs_o _ _ _ _ _ (by decide) (by decide) (by decide) (by decide)) (by rw [xAddPs_J _ _ _ _ _ (by decide)]) (by rw [xAddPs_J _ _ _ _ _ (by decide)])
        have yo : ∀ k, k < 4 ∨ k = 10 → (xAddPs (xE1 E nn nc np a b t) (xAddCJ J nc a b) np nc la).1 k = E k := fun k hk => by rw [xAddPs_o _ _ _ _ _ (by omega) (by omega) (by omega) (by omega)]; exact xAddC_o _ _ _ (by omega)
        have yj : (xAddPs (xE1 E nn nc np a b t) (xAddCJ J nc a b) np nc la).2 0 = J 0 := by rw [xAddPs_J _ _ _ _ _ (by decide)]; exact xAddCJ_o _ _ _ _ (by decide) (by decide)
        have hB2 : barR (xAddPs (xE1 E nn nc np a b t) (xAddCJ J nc a b) np nc la).1 (xAddPs (xE1 E nn nc np a b t) (xAddCJ J nc a b) np nc la).2 (rF3 F nn nc a b la t) nb nm nw := barR_cg (fun q _ => ⟨by rw [yj], by rw [yo 1 (by omega)], by rw [yo 2 (by omega)], by rw [yo 3 (by omega)]⟩) (fun k q g1 g2 _ => by rw [rF3_o _ _ _ _ _ _ _ (by omega)]) (fun k q g1 g2 _ => by rw [rF3_o _ _ _ _ _ _ _ (by omega)]) hB
        have hfn : va_up fp (nc + 1) (np + pmN F a b) nc = np := by rw [va_up_ne _ _ (by omega)]; exact hC.2.2.1.symm
        obtain ⟨g1, g2, g3⟩ := CV.chS hV (by omega) hB2 (c := nc) (by omega) (fun c2 p2 q _ => q) (pmN F a b) E2 (by rw [zn]; exact Nat.le_refl _) (by rw [hfn]; exact x6)
        have hFk : ∀ k, k < 20 → chLoop (rF3 F nn nc a b la t) nm nw (nc + 1) nc (pmN F a b) k = F k := fun k hk => by rw [chLoop_ne _ _ _ _ _ _ (by omega) (by omega), rF3_o _ _ _ _ _ _ _ (by omega)]
        show CP w2 _ E2 _ (chLoop (rF3 F nn nc a b la t) nm nw (nc + 1) nc (pmN F a b)) nl nn nm nw nb _ _ _
        refine ⟨⟨?_, ?_, a3⟩, ⟨?_, ?_, b3⟩, ⟨?_, ?_, m3⟩, ⟨?_, ?_, d3⟩, ⟨?_, va_up_self _ _ _, by omega⟩, ?_, e2, fun j hj => ?_, fun i hi => ?_, g2, g1.weak (fun c2 q2 hc2 hq2 _ => ?_)⟩
        · rw [x4, va_up_ne _ _ (by decide), va_up_ne _ _ (by decide)]; exact a1
        · rw [va_up_ne _ _ (by decide)]; exact a2
        · rw [x4, va_up_ne _ _ (by decide), va_up_ne _ _ (by decide)]; exact b1
        · rw [va_up_ne _ _ (by decide)]; exact b2
        · rw [x4, va_up_ne _ _ (by decide), va_up_ne _ _ (by decide)]; exact m1
        · rw [va_up_ne _ _ (by decide)]; exact m2
        · rw [x4, va_up_ne _ _ (by decide), va_up_ne _ _ (by decide)]; exact d1
        · rw [va_up_ne _ _ (by decide)]; exact d2
        · rw [x4, va_up_self]
        · rw [x4, va_up_ne _ _ (by decide), va_up_self]
        · rw [g3 10 (by decide) (by decide) (by decide) (by decide) (by decide), yo 10 (by omega), hFk 1 (by omega)]
          exact hL j hj
        · have z := hN i hi
          unfold nCp at z ⊢
          rw [g3 0 (by decide) (by decide) (by decide) (by decide) (by decide), y0, hFk 3 (by omega), hFk 4 (by omega), hFk 5 (by omega), hFk 6 (by omega)]
          exact z
        · by_cases q : c2 < nc
          · exact Or.inl q
          · refine Or.inr ⟨by omega, ?_⟩
            have e : c2 = nc := by omega
            rw [e] at hq2
            have z2 : pcN E2 (xAddPs (xE1 E nn nc np a b t) (xAddCJ J nc a b) np nc la).2 nc = pmN F a b := by
              rw [← zn]
              exact pcN_cg (g3 0 (by decide) (by decide) (by decide) (by decide) (by decide)) rfl rfl
            rw [z2] at hq2
            exact hq2
      · rw [if_neg k3] at hx
        rw [if_pos (by omega)] at hr
        cases hx
        cases hr
        exact ⟨rfl, fp, hold⟩
    · rw [if_neg k2] at hx hr
      cases hx
      cases hr
      exact ⟨rfl, fp, hold⟩
  · rw [if_neg k1] at hx hr
    cases hx
    cases hr
    exact ⟨rfl, fp, hold⟩

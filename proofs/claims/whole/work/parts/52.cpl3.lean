def nCp (E : Nat → Nat → Nat → Int32) (F : Nat → Nat → Int32) (nl i : Nat) : Prop := E 0 i 0 = nI i ∧ E 0 i 1 = F 3 i ∧ E 0 i 2 = F 4 i ∧ E 0 i 3 = F 5 i ∧ E 0 i 4 = F 6 i ∧ (F 6 i = 0 ∨ F 6 i = 1) ∧ (∃ la, la < nl ∧ F 3 i = nI la) ∧ iv 0 1000 (F 4 i) ∧ iv (-100) 100 (F 5 i)
def isMk (E : Nat → Nat → Nat → Int32) (J : Nat → Nat → Nat) (F : Nat → Nat → Int32) (b m : Nat) : Prop := J 0 b = 4 ∧ E 1 b = frF (F 8 m) (rcX (F 9 m) (F 11 m)) (rcY (F 10 m) (F 12 m)) 3 ∧ E 2 b = rcX (F 9 m) (F 11 m) ∧ E 3 b = rcY (F 10 m) (F 12 m) ∧ iv 0 1000 (F 9 m) ∧ iv (-200) 200 (F 10 m) ∧ iv 1 200 (F 11 m) ∧ iv 1 200 (F 12 m)
def isWd (E : Nat → Nat → Nat → Int32) (J : Nat → Nat → Nat) (F : Nat → Nat → Int32) (b m : Nat) : Prop := J 0 b = 3 ∧ E 1 b = frF (F 14 m) (trX (F 15 m) (F 16 m)) (trY (F 17 m) (F 18 m)) 2 ∧ E 2 b = trX (F 15 m) (F 16 m) ∧ E 3 b = trY (F 17 m) (F 18 m) ∧ iv 0 1000 (F 15 m) ∧ iv 0 1000 (F 16 m) ∧ F 15 m ≠ F 16 m ∧ iv (-200) 200 (F 17 m) ∧ iv 1 40 (F 18 m)
/-- the bars in the order in which they came -/
def barR (E : Nat → Nat → Nat → Int32) (J : Nat → Nat → Nat) (F : Nat → Nat → Int32) : Nat → Nat → Nat → Prop
  | 0, nm, nw => nm = 0 ∧ nw = 0
  | b + 1, nm, nw => (∃ m, nm = m + 1 ∧ isMk E J F b m ∧ barR E J F b m nw) ∨ (∃ u, nw = u + 1 ∧ isWd E J F b u ∧ barR E J F b nm u)
def cCp (E : Nat → Nat → Nat → Int32) (J : Nat → Nat → Nat) (F : Nat → Nat → Int32) (nn : Nat) (fp : Nat → Nat) (c : Nat) : Prop := J 1 c < nn ∧ J 2 c < nn ∧ F 20 c = nI (J 1 c) ∧ F 21 c = nI (J 2 c) ∧ E 4 c 0 = nI c ∧ E 4 c 3 = F 22 c ∧ (F 22 c = 0 ∨ F 22 c = 1) ∧ E 4 c 4 = F 23 c ∧ (F 23 c = 1 ∨ F 23 c = -1) ∧ E 4 c 5 = nI (fp c) ∧ F 24 c = nI (pcN E J c) ∧ fp (c + 1) = fp c + pcN E J c
def pC0 (E : Nat → Nat → Nat → Int32) (J : Nat → Nat → Nat) (F : Nat → Nat → Int32) (i k c : Nat) : Prop := J 3 i = c ∧ E 5 i 1 = F 25 k ∧ E 5 i 2 = F 26 k ∧ E 5 i 3 = F 27 k ∧ E 5 i 4 = F 28 k ∧ E 5 i 5 = F 29 k ∧ pOk (E 5 i)
def pC1 (E : Nat → Nat → Nat → Int32) (F : Nat → Nat → Int32) (i k c : Nat) : Prop := E 5 i 8 = F 30 k ∧ (∃ q, q < 24 ∧ F 30 k = nI q) ∧ E 5 i 9 = F 31 k ∧ (F 31 k = 0 ∨ F 31 k = 1) ∧ E 6 i = pF (E 5 i) (E 4 c) (E 5 i 8) ∧ ∀ t, t < 4 → E 7 i t = pX (E 5 i) t ∧ E 8 i t = pY (E 5 i) (E 4 c) (E 5 i 8) t
/-- curves and parts of class and reference agree; what is chosen, where ok says so -/
def CV (ok : Nat → Nat → Prop) (E : Nat → Nat → Nat → Int32) (J : Nat → Nat → Nat) (F : Nat → Nat → Int32) (nn nc np : Nat) (fp : Nat → Nat) : Prop := (∀ c, c < nc → cCp E J F nn fp c) ∧ fp 0 = 0 ∧ np = fp nc ∧ ∀ c p, c < nc → p < pcN E J c → pC0 E J F (fp c + p) (2 * c + p) c ∧ (ok c p → pC1 E F (fp c + p) (2 * c + p) c)
section CVA
variable {ok : Nat → Nat → Prop} {E : Nat → Nat → Nat → Int32} {J : Nat → Nat → Nat} {F : Nat → Nat → Int32} {nn nc np : Nat} {fp : Nat → Nat}
theorem CV.fpm (h : CV ok E J F nn nc np fp) {a b : Nat} (hab : a ≤ b) (hb : b ≤ nc) : fp a ≤ fp b := by
  induction b with
  | zero => rw [show a = 0 by omega]; exact Nat.le_refl _
  | succ b ih =>
    by_cases e : a = b + 1
    · rw [e]; exact Nat.le_refl _
    · have h1 := ih (by omega) (by omega)
      have h2 := (h.1 b (by omega)).2.2.2.2.2.2.2.2.2.2.2
      omega
theorem CV.inj (h : CV ok E J F nn nc np fp) {a b p q : Nat} (ha : a < nc) (hb : b < nc) (hp : p < pcN E J a) (hq : q < pcN E J b) (e : fp a + p = fp b + q) : a = b ∧ p = q := by
  have h1 := (h.1 a ha).2.2.2.2.2.2.2.2.2.2.2
  have h2 := (h.1 b hb).2.2.2.2.2.2.2.2.2.2.2
  rcases Nat.lt_trichotomy a b with z | z | z
  · have := h.fpm (a := a + 1) (b := b) (by omega) (by omega)
    omega
  · subst z; omega
  · have := h.fpm (a := b + 1) (b := a) (by omega) (by omega)
    omega
theorem CV.lt (h : CV ok E J F nn nc np fp) {c p : Nat} (hc : c < nc) (hp : p < pcN E J c) : fp c + p < np := by
  have h1 := (h.1 c hc).2.2.2.2.2.2.2.2.2.2.2
  have h2 := h.fpm (a := c + 1) (b := nc) (by omega) (by omega)
  have h3 := h.2.2.1
  omega
end CVA
theorem arch_eq (F : Nat → Nat → Int32) (k : Nat) : rArch F k = archI (F 26 k) (F 28 k) := by
  unfold rArch archI
  by_cases h : 20 ≤ 4 + (F 28 k - F 26 k) / 8
  · rw [if_pos h, if_neg (fun z => by rw [Int32.lt_iff_toInt_lt] at z; rw [Int32.le_iff_toInt_le] at h; omega)]
  · rw [if_neg h, if_pos (by rw [Int32.lt_iff_toInt_lt]; rw [Int32.le_iff_toInt_le] at h; omega)]
theorem pts_eq {E : Nat → Nat → Nat → Int32} {J : Nat → Nat → Nat} {F : Nat → Nat → Int32} {i k c : Nat} (h : pC0 E J F i k c) (hk : k / 2 = c) (hs : E 4 c 4 = F 23 c) (q : Int32) {t : Nat} (ht : t < 4) : rPx F k (nI t) = pX (E 5 i) t ∧ rPy F k q (nI t) = pY (E 5 i) (E 4 c) q t := by
  obtain ⟨h0, h1, h2, h3, h4, h5, hp⟩ := h
  have h6 : E 5 i 6 = rArch F k := by rw [hp.2.2.2.2.2, arch_eq, h2, h4]
  rcases lt4c ht with rfl | rfl | rfl | rfl
  · rw [pX_0, pY_0]
    unfold rPx rPy dY0 dShift
    rw [if_pos (by decide), if_pos (by decide), h2, h3, hk, hs]
    exact ⟨rfl, rfl⟩
  · rw [pX_1, pY_1]
    unfold rPx rPy dY0 dY3 dShift dRise
    rw [if_neg (by decide), if_pos (by decide), if_neg (by decide), if_pos (by decide), h2, h3, h4, h5, h6, hk, hs]
    exact ⟨rfl, rfl⟩
  · rw [pX_2, pY_2]
    unfold rPx rPy dY0 dY3 dShift dRise
    rw [if_neg (by decide), if_neg (by decide), if_pos (by decide), if_neg (by decide), if_neg (by decide), if_pos (by decide), h2, h3, h4, h5, h6, hk, hs]
    exact ⟨rfl, rfl⟩
  · rw [pX_3, pY_3]
    unfold rPx rPy dY3 dShift
    rw [if_neg (by decide), if_neg (by decide), if_neg (by decide), if_neg (by decide), if_neg (by decide), if_neg (by decide), h4, h5, hk, hs]
    exact ⟨rfl, rfl⟩
theorem pts_L {E : Nat → Nat → Nat → Int32} {J : Nat → Nat → Nat} {F : Nat → Nat → Int32} {i k c : Nat} (h : pC0 E J F i k c) (hk : k / 2 = c) (hs : E 4 c 4 = F 23 c) (q : Int32) (t : Nat) (ht : t < 4) : pxs F k t = (pX (E 5 i) t).toInt64 ∧ pys F k q t = (pY (E 5 i) (E 4 c) q t).toInt64 := by
  obtain ⟨e1, e2⟩ := pts_eq h hk hs q ht
  unfold pxs pys
  rw [e1, e2]
  exact ⟨rfl, rfl⟩
section CH
variable {ok : Nat → Nat → Prop} {E : Nat → Nat → Nat → Int32} {J : Nat → Nat → Nat} {F : Nat → Nat → Int32} {nn nc np nb nm nw : Nat} {fp : Nat → Nat} {c p n : Nat}
/-- how many bars a candidate meets -/
theorem bars_eq (h : CV ok E J F nn nc np fp) (hc : c < nc) (hp : p < pcN E J c) (hn : n < 24) : ∀ nb nm nw, barR E J F nb nm nw → cnt (xBq E J (fp c + p) (nI n)) nb = rBars F nm nw (2 * c + p) (nI n) := by
  obtain ⟨h0, -⟩ := h.2.2.2 c p hc hp
  have hcc := h.1 c hc
  have hp2 := (pcN_le E J c).2
  have hk : (2 * c + p) / 2 = c := by omega
  have hs : E 4 c 4 = F 23 c := hcc.2.2.2.2.2.2.2.1
  have hsd : E 4 c 4 = 1 ∨ E 4 c 4 = -1 := by rw [hs]; exact hcc.2.2.2.2.2.2.2.2.1
  have hJ : J 3 (fp c + p) = c := h0.1
  have h1 : E 5 (fp c + p) 1 = F 25 (2 * c + p) := h0.2.1
  have hok : pOk (E 5 (fp c + p)) := h0.2.2.2.2.2.2
  intro nb
  induction nb with
  | zero =>
    rintro nm nw ⟨rfl, rfl⟩
    rfl
  | succ b ih =>
    rintro nm nw (⟨m, rfl, hb, hr⟩ | ⟨u, rfl, hb, hr⟩)
    · rw [cnt, ih _ _ hr]
      obtain ⟨g0, g1, g2, g3, g4, g5, g6, g7⟩ := hb
      have e : xBq E J (fp c + p) (nI n) b = cM F (2 * c + p) (nI n) m := by
        unfold xBq cM
        rw [hJ, g0, g1, g2, g3, eq_mark hok hsd hn g4 g5 g6 g7 (pts_L h0 hk hs (nI n)), h1]
      unfold rBars
      rw [e, cnt]
      omega
    · rw [cnt, ih _ _ hr]
      obtain ⟨g0, g1, g2, g3, g4, g5, g6, g7, g8⟩ := hb
      have e : xBq E J (fp c + p) (nI n) b = cW F (2 * c + p) (nI n) u := by
        unfold xBq cW
        rw [hJ, g0, g1, g2, g3, eq_wedge hok hsd hn g4 g5 g6 g7 g8 (pts_L h0 hk hs (nI n)), h1]
      unfold rBars
      rw [e, cnt]
      omega
theorem win_eq (h : CV ok E J F nn nc np fp) (hc40 : nc ≤ 40) {c2 p2 : Nat} (hc : c < nc) (hp : p < pcN E J c) (hc2 : c2 < nc) (hp2 : p2 < pcN E J c2) : pWin (E 5 (fp c2 + p2)) (E 4 (J 3 (fp c2 + p2))) (E 5 (fp c + p)) (E 4 (J 3 (fp c + p))) = rIn F (2 * c2 + p2) (2 * c + p) := by
  obtain ⟨⟨a0, a1, a2, a3, a4, a5, -⟩, -⟩ := h.2.2.2 c p hc hp
  obtain ⟨⟨b0, b1, b2, b3, b4, b5, -⟩, -⟩ := h.2.2.2 c2 p2 hc2 hp2
  have h1 := h.1 c hc
  have h2 := h.1 c2 hc2
  have l1 := (pcN_le E J c).2
  have l2 := (pcN_le E J c2).2
  unfold pWin rIn
  rw [a0, b0, a1, b1, a2, b2, a4, b4, h1.2.2.2.2.1, h2.2.2.2.2.1, h1.2.2.2.2.2.2.2.1, h2.2.2.2.2.2.2.2.1, show (2 * c2 + p2) / 2 = c2 by omega, show (2 * c + p) / 2 = c by omega]
  rw [Bool.eq_iff_iff, decide_eq_true_eq, decide_eq_true_eq, nI_leI (by omega) (by omega)]
  constructor
  · rintro ⟨z1, z2, z3, z4, z5⟩
    exact ⟨by omega, z1, z3, z4, z5⟩
  · rintro ⟨z1, z2, z3, z4, z5⟩
    exact ⟨z2, by omega, z3, z4, z5⟩
/-- how many hulls a candidate meets -/
theorem hulls_eq (h : CV ok E J F nn nc np fp) (hc40 : nc ≤ 40) (hc : c < nc) (hp : p < pcN E J c) (hn : n < 24) (hok : ∀ c2 p2, c2 < c → p2 < pcN E J c2 → ok c2 p2) : cnt (xHq E J (fp c + p) (nI n)) np = rHulls F nc (2 * c + p) (nI n) := by
  obtain ⟨h0, -⟩ := h.2.2.2 c p hc hp
  have hcc := h.1 c hc
  have hp2 := (pcN_le E J c).2
  have hk : (2 * c + p) / 2 = c := by omega
  have hs : E 4 c 4 = F 23 c := hcc.2.2.2.2.2.2.2.1
  have hsd : E 4 c 4 = 1 ∨ E 4 c 4 = -1 := by rw [hs]; exact hcc.2.2.2.2.2.2.2.2.1
  have one : ∀ c2 p2, c2 < nc → p2 < pcN E J c2 → xHq E J (fp c + p) (nI n) (fp c2 + p2) = cH F (2 * c + p) (nI n) (2 * c2 + p2) := fun c2 p2 l1 l2 => by
    have l3 := (pcN_le E J c2).2
    have g := h.1 c2 l1
    have hv : ¬ F 24 ((2 * c2 + p2) / 2) ≤ nI ((2 * c2 + p2) % 2) := by
      rw [show (2 * c2 + p2) / 2 = c2 by omega, show (2 * c2 + p2) % 2 = p2 by omega, g.2.2.2.2.2.2.2.2.2.2.1, nI_leI (by omega) (by omega)]
      omega
    unfold xHq cH
    rw [win_eq h hc40 hc hp l1 l2, decide_eq_false hv, Bool.not_false, Bool.true_and]
    by_cases hr : rIn F (2 * c2 + p2) (2 * c + p) = true
    · rw [hr, Bool.true_and, Bool.true_and]
      have hr2 := of_decide_eq_true hr
      obtain ⟨k0, k1⟩ := h.2.2.2 c2 p2 l1 l2
      have hlt : c2 < c := by have := hr2.1; omega
      obtain ⟨m1, ⟨q, hq, m2⟩, m3, m4, m5, m6⟩ := k1 (hok c2 p2 hlt l2)
      have hs2 : E 4 c2 4 = F 23 c2 := g.2.2.2.2.2.2.2.1
      have hsd2 : E 4 c2 4 = 1 ∨ E 4 c2 4 = -1 := by rw [hs2]; exact g.2.2.2.2.2.2.2.2.1
      rw [m1, m2] at m5 m6
      rw [h0.1, m5, metB_congr2 m6, m2]
      exact eq_hull h0.2.2.2.2.2.2 hsd hn k0.2.2.2.2.2.2 hsd2 hq (pts_L h0 hk hs (nI n)) (pts_L k0 (by omega) hs2 (nI q)) (by rw [k0.2.1, h0.2.1]; exact hr2.2.1)
    · rw [Bool.not_eq_true] at hr
      rw [hr, Bool.false_and, Bool.false_and]
  have all : ∀ m, m ≤ nc → cnt (xHq E J (fp c + p) (nI n)) (fp m) = cnt (cH F (2 * c + p) (nI n)) (2 * m) := fun m => by
    induction m with
    | zero => intro _; rw [h.2.1]; rfl
    | succ m ih =>
      intro hm
      have g := h.1 m (by omega)
      have i0 := ih (by omega)
      rw [g.2.2.2.2.2.2.2.2.2.2.2, show 2 * (m + 1) = 2 * m + 1 + 1 by omega, cnt, cnt]
      rcases (show pcN E J m = 1 ∨ pcN E J m = 2 by have := pcN_le E J m; omega) with z | z
      · have o1 := one m 0 (by omega) (by omega)
        have hf : cH F (2 * c + p) (nI n) (2 * m + 1) = false := by
          have hv : F 24 ((2 * m + 1) / 2) ≤ nI ((2 * m + 1) % 2) := by
            rw [show (2 * m + 1) / 2 = m by omega, show (2 * m + 1) % 2 = 1 by omega, g.2.2.2.2.2.2.2.2.2.2.1, z, nI_leI (by omega) (by omega)]
            exact Nat.le_refl _
          unfold cH
          rw [decide_eq_true hv]
          rfl
        rw [z, cnt, hf, i0]
        rw [Nat.add_zero, Nat.add_zero] at o1
        rw [o1]
        rfl
      · have o1 := one m 0 (by omega) (by omega)
        have o2 := one m 1 (by omega) (by omega)
        rw [Nat.add_zero, Nat.add_zero] at o1
        rw [z, show fp m + 2 = fp m + 1 + 1 from rfl, cnt, cnt, i0, o1, o2]
  rw [h.2.2.1]
  exact all nc (Nat.le_refl _)
theorem bad_eq (q : Int32) : pBad q = rBad q := by unfold pBad rBad; grind
theorem nqe (h : CV ok E J F nn nc np fp) (hc : c < nc) (hp : p < pcN E J c) : nqc (E 4 (J 3 (fp c + p))) = nq F (2 * c + p) := by
  obtain ⟨h0, -⟩ := h.2.2.2 c p hc hp
  have hp2 := (pcN_le E J c).2
  unfold nqc nq
  rw [h0.1, (h.1 c hc).2.2.2.2.2.1, show (2 * c + p) / 2 = c by omega]
/-- the choice, step by step -/
theorem ch_eq (h : CV ok E J F nn nc np fp) (hc40 : nc ≤ 40) (hbar : barR E J F nb nm nw) (hc : c < nc) (hp : p < pcN E J c) (hok : ∀ c2 p2, c2 < c → p2 < pcN E J c2 → ok c2 p2) (n : Nat) (hn : n ≤ 24) : (xCh E J nb np (fp c + p) n = -1 ∧ chB F nm nw nc (2 * c + p) n = -9005) ∨ ∃ m, m < n ∧ xCh E J nb np (fp c + p) n = nI m ∧ chB F nm nw nc (2 * c + p) n = nI m := by
  induction n with
  | zero => exact Or.inl ⟨rfl, rfl⟩
  | succ n ih =>
    have i0 := ih (by omega)
    have e1 := bars_eq h hc hp (n := n) (by omega) nb nm nw hbar
    have e2 := hulls_eq h hc40 hc hp (n := n) (by omega) hok
    rw [xCh, chB, e1, e2]
    rcases i0 with ⟨a, b⟩ | ⟨m, hm, a, b⟩
    · rw [a, b]
      by_cases hz : rBars F nm nw (2 * c + p) (nI n) = 0 ∧ rHulls F nc (2 * c + p) (nI n) = 0
      · rw [if_pos ⟨Or.inl rfl, hz⟩, if_pos ⟨Or.inl rfl, hz⟩]
        exact Or.inr ⟨n, by omega, rfl, rfl⟩
      · rw [if_neg (fun z => hz z.2), if_neg (fun z => hz z.2)]
        exact Or.inl ⟨rfl, rfl⟩
    · have n1 : ¬ nI m = -1 := fun z => by
        have := congrArg Int32.toInt z
        rw [nI_toInt (by omega), show (-1 : Int32).toInt = -1 from rfl] at this
        omega
      have n2 : ¬ nI m = -9005 := fun z => by
        have := congrArg Int32.toInt z
        rw [nI_toInt (by omega), show (-9005 : Int32).toInt = -9005 from rfl] at this
        omega
      rw [a, b, bad_eq, bad_eq]
      by_cases hz : ¬ rBad (nI m) ≤ rBad (nI n) ∧ rBars F nm nw (2 * c + p) (nI n) = 0 ∧ rHulls F nc (2 * c + p) (nI n) = 0
      · rw [if_pos ⟨Or.inr hz.1, hz.2⟩, if_pos ⟨Or.inr hz.1, hz.2⟩]
        exact Or.inr ⟨n, by omega, rfl, rfl⟩
      · rw [if_neg (fun z => z.1.elim n1 (fun y => hz ⟨y, z.2⟩)), if_neg (fun z => z.1.elim n2 (fun y => hz ⟨y, z.2⟩))]
        exact Or.inr ⟨m, by omega, rfl, rfl⟩
/-- what is chosen in the end -/
theorem chos_eq (h : CV ok E J F nn nc np fp) (hc40 : nc ≤ 40) (hbar : barR E J F nb nm nw) (hc : c < nc) (hp : p < pcN E J c) (hok : ∀ c2 p2, c2 < c → p2 < pcN E J c2 → ok c2 p2) : (xBest E J nb np (fp c + p) = -1 ↔ chB F nm nw nc (2 * c + p) (nq F (2 * c + p)) = -9005) ∧ xChos E J nb np (fp c + p) = (if chB F nm nw nc (2 * c + p) (nq F (2 * c + p)) = -9005 then nI (nq F (2 * c + p)) - 1 else chB F nm nw nc (2 * c + p) (nq F (2 * c + p))) ∧ ∃ q, q < 24 ∧ xChos E J nb np (fp c + p) = nI q := by
  have hq := nqe h hc hp
  have hle := nqc_le (E 4 (J 3 (fp c + p)))
  unfold xChos xBest
  rw [hq] at hle ⊢
  rcases ch_eq h hc40 hbar hc hp hok (nq F (2 * c + p)) hle.2 with ⟨a, b⟩ | ⟨m, hm, a, b⟩
  · rw [a, b, if_pos rfl, if_pos rfl]
    refine ⟨⟨fun _ => rfl, fun _ => rfl⟩, rfl, nq F (2 * c + p) - 1, by omega, ?_⟩
    rw [show nq F (2 * c + p) = (nq F (2 * c + p) - 1) + 1 by omega, nI_pred]
    rfl
  · have n1 : ¬ nI m = -1 := fun z => by
      have := congrArg Int32.toInt z
      rw [nI_toInt (by omega), show (-1 : Int32).toInt = -1 from rfl] at this
      omega
    have n2 : ¬ nI m = -9005 := fun z => by
      have := congrArg Int32.toInt z
      rw [nI_toInt (by omega), show (-9005 : Int32).toInt = -9005 from rfl] at this
      omega
    rw [a, b, if_neg n1, if_neg n2]
    exact ⟨⟨fun z => absurd z n1, fun z => absurd z n2⟩, rfl, m, by omega, rfl⟩
end CH

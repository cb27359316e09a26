/-- class and reference agree -/
def CP (w v : Nat → Int32) (E : Nat → Nat → Nat → Int32) (J : Nat → Nat → Nat) (F : Nat → Nat → Int32) (nl nn nm nw nb nc np : Nat) (fp : Nat → Nat) : Prop :=
  (w 6 = nI nl ∧ v 0 = nI nl ∧ nl ≤ 4) ∧ (w 7 = nI nn ∧ v 2 = nI nn ∧ nn ≤ 60) ∧ (w 8 = nI nm ∧ v 7 = nI nm ∧ nm ≤ 40) ∧ (w 9 = nI nw ∧ v 13 = nI nw ∧ nw ≤ 12) ∧ (w 10 = nI nc ∧ v 19 = nI nc ∧ nc ≤ 40) ∧ w 11 = nI np ∧ nb = nm + nw ∧
  (∀ j, j < nl → E 10 0 j = F 1 j ∧ iv 100 1000 (F 1 j)) ∧ (∀ i, i < nn → nCp E F nl i) ∧ barR E J F nb nm nw ∧ CV (fun _ _ => True) E J F nn nc np fp
theorem inB_iv {x lo hi : Int32} (h : inB x lo hi = true) : lo.toInt ≤ x.toInt ∧ x.toInt ≤ hi.toInt := by
  obtain ⟨h1, h2⟩ := of_decide_eq_true h
  rw [Int32.lt_iff_toInt_lt] at h1 h2
  omega
theorem CV.cg {ok : Nat → Nat → Prop} {E E2 : Nat → Nat → Nat → Int32} {J J2 : Nat → Nat → Nat} {F F2 : Nat → Nat → Int32} {nn nn2 nc np : Nat} {fp : Nat → Nat} (h : CV ok E J F nn nc np fp) (h0 : ∀ i, i < nn → E2 0 i = E 0 i) (hE : ∀ k, 4 ≤ k → k ≤ 8 → E2 k = E k) (hJ : ∀ k, 1 ≤ k → k ≤ 3 → J2 k = J k) (hF : ∀ k, 20 ≤ k → k ≤ 31 → F2 k = F k) (hn : nn ≤ nn2) : CV ok E2 J2 F2 nn2 nc np fp := by
  have zp : ∀ c, c < nc → pcN E2 J2 c = pcN E J c := fun c hc => by
    have g := h.1 c hc
    unfold pcN
    rw [hJ 1 (by omega) (by omega), hJ 2 (by omega) (by omega), h0 _ g.1, h0 _ g.2.1]
  refine ⟨fun c hc => ?_, h.2.1, h.2.2.1, fun c p hc hp => ?_⟩
  · have g := h.1 c hc
    unfold cCp at g ⊢
    rw [zp c hc, hJ 1 (by omega) (by omega), hJ 2 (by omega) (by omega), hE 4 (by omega) (by omega), hF 20 (by omega) (by omega), hF 21 (by omega) (by omega), hF 22 (by omega) (by omega), hF 23 (by omega) (by omega), hF 24 (by omega) (by omega)]
    exact ⟨by omega, by omega, g.2.2⟩
  · rw [zp c hc] at hp
    obtain ⟨g0, g1⟩ := h.2.2.2 c p hc hp
    unfold pC0 pC1 at *
    rw [hJ 3 (by omega) (by omega), hE 5 (by omega) (by omega), hE 4 (by omega) (by omega), hE 6 (by omega) (by omega), hE 7 (by omega) (by omega), hE 8 (by omega) (by omega), hF 25 (by omega) (by omega), hF 26 (by omega) (by omega), hF 27 (by omega) (by omega), hF 28 (by omega) (by omega), hF 29 (by omega) (by omega), hF 30 (by omega) (by omega), hF 31 (by omega) (by omega)]
    exact ⟨g0, g1⟩
section OPS
variable {w v w2 v2 : Nat → Int32} {E E2 : Nat → Nat → Nat → Int32} {J J2 : Nat → Nat → Nat} {F F2 : Nat → Nat → Int32} {nl nn nm nw nb nc np n2 : Nat} {fp : Nat → Nat} {r s : Int32}
theorem cp_line (h : CP w v E J F nl nn nm nw nb nc np fp) {x : Int32} (hx : (r, w2, E2) = xLine w E nl x) (hr : (s, v2, F2) = rLine v F nl x) : r = s ∧ ∃ nl2, CP w2 v2 E2 J F2 nl2 nn nm nw nb nc np fp := by
  obtain ⟨⟨a1, a2, a3⟩, b, m, d, c, e1, e2, hL, hN, hB, hC⟩ := h
  unfold xLine at hx
  unfold rLine at hr
  by_cases c1 : inB x 100 1000 = true
  · rw [if_pos c1] at hx hr
    by_cases c2 : nl < 4
    · rw [if_pos c2] at hx
      rw [if_neg (by omega)] at hr
      cases hx
      cases hr
      refine ⟨rfl, nl + 1, ⟨va_up_self _ _ _, va_up_self _ _ _, by omega⟩, ?_, ?_, ?_, ?_, ?_, e2, fun j hj => ?_, fun i hi => ?_, ?_, ?_⟩
      · rw [va_up_ne _ _ (by decide), va_up_ne _ _ (by decide)]; exact b
      · rw [va_up_ne _ _ (by decide), va_up_ne _ _ (by decide)]; exact m
      · rw [va_up_ne _ _ (by decide), va_up_ne _ _ (by decide)]; exact d
      · rw [va_up_ne _ _ (by decide), va_up_ne _ _ (by decide)]; exact c
      · rw [va_up_ne _ _ (by decide)]; exact e1
      · rw [va_up_self, va_up_self]
        by_cases z : j = nl
        · subst z
          rw [sF_self]
          have := inB_iv c1
          exact ⟨pk_us, this.1, this.2⟩
        · rw [sF_o _ _ _ z]
          have g := hL j (by omega)
          exact ⟨by simp [upd, z]; exact g.1, g.2⟩
      · have g := hN i hi
        unfold nCp at g ⊢
        rw [va_up_ne _ _ (by decide), sF_ne _ _ _ (by decide), sF_ne _ _ _ (by decide), sF_ne _ _ _ (by decide), sF_ne _ _ _ (by decide)]
        obtain ⟨g1, g2, g3, g4, g5, g6, ⟨la, g7, g8⟩, g9⟩ := g
        exact ⟨g1, g2, g3, g4, g5, g6, ⟨la, by omega, g8⟩, g9⟩
      · exact barR_cg (fun b _ => ⟨rfl, by rw [va_up_ne _ _ (by decide)], by rw [va_up_ne _ _ (by decide)], by rw [va_up_ne _ _ (by decide)]⟩) (fun k q a b _ => by rw [sF_ne _ _ _ (by omega)]) (fun k q a b _ => by rw [sF_ne _ _ _ (by omega)]) hB
      · exact hC.cg (fun i _ => by rw [va_up_ne _ _ (by decide)]) (fun k a b => va_up_ne _ _ (by omega)) (fun k _ _ => rfl) (fun k a b => sF_ne _ _ _ (by omega)) (Nat.le_refl _)
    · rw [if_neg c2] at hx
      rw [if_pos (by omega)] at hr
      cases hx
      cases hr
      exact ⟨rfl, nl, ⟨a1, a2, a3⟩, b, m, d, c, e1, e2, hL, hN, hB, hC⟩
  · rw [if_neg c1] at hx hr
    cases hx
    cases hr
    exact ⟨rfl, nl, ⟨a1, a2, a3⟩, b, m, d, c, e1, e2, hL, hN, hB, hC⟩
/-- a line that is there -/
theorem ln_nat {l : Int32} (hw : w 6 = nI nl) (h4 : nl ≤ 4) (h : inB l 0 (w 6 - 1) = true) : ∃ la, la < nl ∧ l = nI la ∧ l.toNatClampNeg = la := by
  obtain ⟨la, h1, h2⟩ := inP_nat h hw (by omega)
  exact ⟨la, h1, h2, by rw [h2, nI_clamp (by omega)]⟩
theorem cp_note (h : CP w v E J F nl nn nm nw nb nc np fp) {l x y u : Int32} (hu : u = 0 ∨ u = 1) (hx : (r, w2, E2, n2) = xNote w E nn l x y u) (hr : (s, v2, F2) = rNote v F nn l x y u) : r = s ∧ CP w2 v2 E2 J F2 nl n2 nm nw nb nc np fp := by
  obtain ⟨⟨a1, a2, a3⟩, ⟨b1, b2, b3⟩, m, d, c, e1, e2, hL, hN, hB, hC⟩ := h
  have hold : CP w v E J F nl nn nm nw nb nc np fp := ⟨⟨a1, a2, a3⟩, ⟨b1, b2, b3⟩, m, d, c, e1, e2, hL, hN, hB, hC⟩
  unfold xNote at hx
  unfold rNote at hr
  rw [a1] at hx
  rw [a2] at hr
  by_cases c1 : inB l 0 (nI nl - 1) = true
  · rw [if_pos c1] at hx hr
    obtain ⟨la, l1, l2, l3⟩ := ln_nat a1 a3 (by rw [a1]; exact c1)
    obtain ⟨w1, w3⟩ := hL la l1
    rw [l3] at hx hr
    rw [w1] at hx
    by_cases c2 : inB x 0 (F 1 la) = true ∧ inB y (-100) 100 = true
    · rw [if_pos c2] at hx hr
      by_cases c3 : nn < 60
      · rw [if_pos c3] at hx
        rw [if_neg (by omega)] at hr
        cases hx
        cases hr
        have x1 := inB_iv c2.1
        have y1 := inB_iv c2.2
        refine ⟨rfl, ⟨?_, ?_, a3⟩, ⟨va_up_self _ _ _, va_up_self _ _ _, by omega⟩, ?_, ?_, ?_, ?_, e2, fun j hj => ?_, fun i hi => ?_, ?_, ?_⟩
        · rw [va_up_ne _ _ (by decide)]; exact a1
        · rw [va_up_ne _ _ (by decide)]; exact a2
        · rw [va_up_ne _ _ (by decide), va_up_ne _ _ (by decide)]; exact m
        · rw [va_up_ne _ _ (by decide), va_up_ne _ _ (by decide)]; exact d
        · rw [va_up_ne _ _ (by decide), va_up_ne _ _ (by decide)]; exact c
        · rw [va_up_ne _ _ (by decide)]; exact e1
        · rw [va_up_ne _ _ (by decide), sF_ne _ _ _ (by decide), sF_ne _ _ _ (by decide), sF_ne _ _ _ (by decide), sF_ne _ _ _ (by decide)]
          exact hL j hj
        · have f3 : sF (sF (sF (sF F 3 nn l) 4 nn x) 5 nn y) 6 nn u 3 = sF F 3 nn l 3 := by rw [sF_ne _ _ _ (by decide), sF_ne _ _ _ (by decide), sF_ne _ _ _ (by decide)]
          have f4 : sF (sF (sF (sF F 3 nn l) 4 nn x) 5 nn y) 6 nn u 4 = sF (sF F 3 nn l) 4 nn x 4 := by rw [sF_ne _ _ _ (by decide), sF_ne _ _ _ (by decide)]
          have f5 : sF (sF (sF (sF F 3 nn l) 4 nn x) 5 nn y) 6 nn u 5 = sF (sF (sF F 3 nn l) 4 nn x) 5 nn y 5 := by rw [sF_ne _ _ _ (by decide)]
          unfold nCp
          rw [va_up_self, f3, f4, f5]
          by_cases z : i = nn
          · subst z
            rw [va_up_self, sF_self, sF_self, sF_self, sF_self]
            refine ⟨rfl, rfl, rfl, rfl, rfl, hu, ⟨la, l1, l2⟩, ⟨x1.1, ?_⟩, y1⟩
            have := w3.2
            have := x1.2
            omega
          · rw [va_up_ne _ _ z, sF_o _ _ _ z, sF_o _ _ _ z, sF_o _ _ _ z, sF_o _ _ _ z, sF_ne _ _ _ (by decide), sF_ne _ _ _ (by decide), sF_ne _ _ _ (by decide), sF_ne _ _ _ (by decide), sF_ne _ _ _ (by decide), sF_ne _ _ _ (by decide)]
            exact hN i (by omega)
        · exact barR_cg (fun b _ => ⟨rfl, by rw [va_up_ne _ _ (by decide)], by rw [va_up_ne _ _ (by decide)], by rw [va_up_ne _ _ (by decide)]⟩) (fun k q a b _ => by rw [sF_ne _ _ _ (by omega), sF_ne _ _ _ (by omega), sF_ne _ _ _ (by omega), sF_ne _ _ _ (by omega)]) (fun k q a b _ => by rw [sF_ne _ _ _ (by omega), sF_ne _ _ _ (by omega), sF_ne _ _ _ (by omega), sF_ne _ _ _ (by omega)]) hB
        · exact hC.cg (fun i hi => by rw [va_up_self, va_up_ne _ _ (by omega)]) (fun k a b => va_up_ne _ _ (by omega)) (fun k _ _ => rfl) (fun k a b => by rw [sF_ne _ _ _ (by omega), sF_ne _ _ _ (by omega), sF_ne _ _ _ (by omega), sF_ne _ _ _ (by omega)]) (by omega)
      · rw [if_neg c3] at hx
        rw [if_pos (by omega)] at hr
        cases hx
        cases hr
        exact ⟨rfl, hold⟩
    · rw [if_neg c2] at hx hr
      cases hx
      cases hr
      exact ⟨rfl, hold⟩
  · rw [if_neg c1] at hx hr
    cases hx
    cases hr
    exact ⟨rfl, hold⟩
theorem xAddB_o (E : Nat → Nat → Nat → Int32) (nb : Nat) (f gx gy : Nat → Int32) {k : Nat} (h1 : k ≠ 1) (h2 : k ≠ 2) (h3 : k ≠ 3) : xAddB E nb f gx gy k = E k := by unfold xAddB; rw [va_up_ne _ _ h3, va_up_ne _ _ h2, va_up_ne _ _ h1]
theorem xAddB_1 (E : Nat → Nat → Nat → Int32) (nb : Nat) (f gx gy : Nat → Int32) : xAddB E nb f gx gy 1 = va_up (E 1) nb f := by unfold xAddB; rw [va_up_ne _ _ (by decide), va_up_ne _ _ (by decide), va_up_self]
theorem xAddB_2 (E : Nat → Nat → Nat → Int32) (nb : Nat) (f gx gy : Nat → Int32) : xAddB E nb f gx gy 2 = va_up (E 2) nb gx := by unfold xAddB; rw [va_up_ne _ _ (by decide), va_up_self]
theorem xAddB_3 (E : Nat → Nat → Nat → Int32) (nb : Nat) (f gx gy : Nat → Int32) : xAddB E nb f gx gy 3 = va_up (E 3) nb gy := by unfold xAddB; rw [va_up_self]
/-- five fields of a new bar -/
def s5 (F : Nat → Nat → Int32) (k i : Nat) (a b c d e : Int32) : Nat → Nat → Int32 := sF (sF (sF (sF (sF F k i a) (k + 1) i b) (k + 2) i c) (k + 3) i d) (k + 4) i e
theorem s5_o (F : Nat → Nat → Int32) {k : Nat} (i : Nat) (a b c d e : Int32) {j : Nat} (h : j < k ∨ k + 4 < j) : s5 F k i a b c d e j = F j := by unfold s5; rw [sF_ne _ _ _ (by omega), sF_ne _ _ _ (by omega), sF_ne _ _ _ (by omega), sF_ne _ _ _ (by omega), sF_ne _ _ _ (by omega)]
theorem s5_i (F : Nat → Nat → Int32) {k : Nat} {i : Nat} (a b c d e : Int32) {j m : Nat} (h : m ≠ i) : s5 F k i a b c d e j m = F j m := by
  have one : ∀ (G : Nat → Nat → Int32) (k : Nat) (x : Int32), sF G k i x j m = G j m := fun G k x => by
    by_cases z : j = k
    · subst z; exact sF_o _ _ _ h
    · rw [sF_ne _ _ _ z]
  unfold s5
  rw [one, one, one, one, one]
theorem s5_0 (F : Nat → Nat → Int32) (k i : Nat) (a b c d e : Int32) : s5 F k i a b c d e k i = a := by unfold s5; rw [sF_ne _ _ _ (by omega), sF_ne _ _ _ (by omega), sF_ne _ _ _ (by omega), sF_ne _ _ _ (by omega), sF_self]
theorem s5_1 (F : Nat → Nat → Int32) (k i : Nat) (a b c d e : Int32) : s5 F k i a b c d e (k + 1) i = b := by unfold s5; rw [sF_ne _ _ _ (by omega), sF_ne _ _ _ (by omega), sF_ne _ _ _ (by omega), sF_self]
theorem s5_2 (F : Nat → Nat → Int32) (k i : Nat) (a b c d e : Int32) : s5 F k i a b c d e (k + 2) i = c := by unfold s5; rw [sF_ne _ _ _ (by omega), sF_ne _ _ _ (by omega), sF_self]
theorem s5_3 (F : Nat → Nat → Int32) (k i : Nat) (a b c d e : Int32) : s5 F k i a b c d e (k + 3) i = d := by unfold s5; rw [sF_ne _ _ _ (by omega), sF_self]
theorem s5_4 (F : Nat → Nat → Int32) (k i : Nat) (a b c d e : Int32) : s5 F k i a b c d e (k + 4) i = e := by unfold s5; rw [sF_self]
theorem cp_mark (h : CP w v E J F nl nn nm nw nb nc np fp) {l x y u z : Int32} (hx : (r, w2, E2, J2, n2) = xMark w E J nm nb l x y u z) (hr : (s, v2, F2) = rMark v F nm l x y u z) : r = s ∧ ∃ nm2, CP w2 v2 E2 J2 F2 nl nn nm2 nw n2 nc np fp := by
  obtain ⟨⟨a1, a2, a3⟩, b, ⟨m1, m2, m3⟩, d, c, e1, e2, hL, hN, hB, hC⟩ := h
  have hold : CP w v E J F nl nn nm nw nb nc np fp := ⟨⟨a1, a2, a3⟩, b, ⟨m1, m2, m3⟩, d, c, e1, e2, hL, hN, hB, hC⟩
  unfold xMark at hx
  unfold rMark at hr
  rw [a1] at hx
  rw [a2] at hr
  by_cases c1 : inB l 0 (nI nl - 1) = true
  · rw [if_pos c1] at hx hr
    obtain ⟨la, l1, l2, l3⟩ := ln_nat a1 a3 (by rw [a1]; exact c1)
    obtain ⟨w1, w3⟩ := hL la l1
    rw [l3] at hx hr
    unfold xBar at hx
    rw [w1] at hx
    by_cases c2 : inB x 0 (F 1 la) = true ∧ inB y (-200) 200 = true ∧ inB u 1 200 = true ∧ inB z 1 200 = true
    · rw [if_pos ⟨by rw [c2.1, c2.2.1]; rfl, c2.2.2⟩] at hx
      rw [if_pos c2] at hr
      by_cases c3 : nm < 40
      · rw [if_pos c3] at hx
        rw [if_neg (by omega)] at hr
        cases hx
        cases hr
        have x1 := inB_iv c2.1
        have y1 := inB_iv c2.2.1
        have u1 := inB_iv c2.2.2.1
        have z1 := inB_iv c2.2.2.2
        show _ ∧ ∃ nm2, CP _ _ _ _ (s5 F 8 nm l x y u z) _ _ _ _ _ _ _ _
        refine ⟨rfl, nm + 1, ⟨?_, ?_, a3⟩, ?_, ⟨va_up_self _ _ _, va_up_self _ _ _, by omega⟩, ?_, ?_, ?_, by omega, fun j hj => ?_, fun i hi => ?_, ?_, ?_⟩
        · rw [va_up_ne _ _ (by decide)]; exact a1
        · rw [va_up_ne _ _ (by decide)]; exact a2
        · rw [va_up_ne _ _ (by decide), va_up_ne _ _ (by decide)]; exact b
        · rw [va_up_ne _ _ (by decide), va_up_ne _ _ (by decide)]; exact d
        · rw [va_up_ne _ _ (by decide), va_up_ne _ _ (by decide)]; exact c
        · rw [va_up_ne _ _ (by decide)]; exact e1
        · rw [xAddB_o _ _ _ _ _ (by decide) (by decide) (by decide), s5_o _ _ _ _ _ _ _ (by omega)]
          exact hL j hj
        · unfold nCp
          rw [xAddB_o _ _ _ _ _ (by decide) (by decide) (by decide), s5_o _ _ _ _ _ _ _ (by omega), s5_o _ _ _ _ _ _ _ (by omega), s5_o _ _ _ _ _ _ _ (by omega), s5_o _ _ _ _ _ _ _ (by omega)]
          exact hN i hi
        · refine Or.inl ⟨nm, rfl, ?_, barR_cg (fun q hq => ⟨?_, ?_, ?_, ?_⟩) (fun k q _ _ hq => s5_i _ _ _ _ _ _ (by omega)) (fun k q g1 g2 _ => by rw [s5_o _ _ _ _ _ _ _ (by omega)]) hB⟩
          · unfold isMk
            rw [xAddB_1, xAddB_2, xAddB_3, va_up_self, va_up_self, va_up_self, s5_0, s5_1 F 8, s5_2 F 8, s5_3 F 8, s5_4 F 8]
            refine ⟨?_, rfl, rfl, rfl, ⟨x1.1, ?_⟩, y1, u1, z1⟩
            · unfold xAddJ; rw [va_up_self, va_up_self]
            · have := w3.2
              have := x1.2
              omega
          · unfold xAddJ; rw [va_up_self, va_up_ne _ _ (by omega)]
          · rw [xAddB_1, va_up_ne _ _ (by omega)]
          · rw [xAddB_2, va_up_ne _ _ (by omega)]
          · rw [xAddB_3, va_up_ne _ _ (by omega)]
        · exact hC.cg (fun i hi => by rw [xAddB_o _ _ _ _ _ (by decide) (by decide) (by decide)]) (fun k a b => xAddB_o _ _ _ _ _ (by omega) (by omega) (by omega)) (fun k q1 q2 => va_up_ne _ _ (by omega)) (fun k a b => s5_o _ _ _ _ _ _ _ (by omega)) (Nat.le_refl _)
      · rw [if_neg c3] at hx
        rw [if_pos (by omega)] at hr
        cases hx
        cases hr
        exact ⟨rfl, nm, hold⟩
    · rw [if_neg (fun q => c2 (by rw [Bool.and_eq_true] at q; exact ⟨q.1.1, q.1.2, q.2⟩))] at hx
      rw [if_neg c2] at hr
      cases hx
      cases hr
      exact ⟨rfl, nm, hold⟩
  · rw [if_neg c1] at hx hr
    cases hx
    cases hr
    exact ⟨rfl, nm, hold⟩
theorem cp_wedge (h : CP w v E J F nl nn nm nw nb nc np fp) {l x z y o : Int32} (hx : (r, w2, E2, J2, n2) = xWedge w E J nw nb l x z y o) (hr : (s, v2, F2) = rWedge v F nw l x z y o) : r = s ∧ ∃ nw2, CP w2 v2 E2 J2 F2 nl nn nm nw2 n2 nc np fp := by
  obtain ⟨⟨a1, a2, a3⟩, b, m, ⟨d1, d2, d3⟩, c, e1, e2, hL, hN, hB, hC⟩ := h
  have hold : CP w v E J F nl nn nm nw nb nc np fp := ⟨⟨a1, a2, a3⟩, b, m, ⟨d1, d2, d3⟩, c, e1, e2, hL, hN, hB, hC⟩
  unfold xWedge at hx
  unfold rWedge at hr
  rw [a1] at hx
  rw [a2] at hr
  by_cases c1 : inB l 0 (nI nl - 1) = true
  · rw [if_pos c1] at hx hr
    obtain ⟨la, l1, l2, l3⟩ := ln_nat a1 a3 (by rw [a1]; exact c1)
    obtain ⟨w1, w3⟩ := hL la l1
    rw [l3] at hx hr
    unfold xBar at hx
    rw [w1] at hx
    by_cases c2 : inB x 0 (F 1 la) = true ∧ inB z 0 (F 1 la) = true ∧ ¬ x = z ∧ inB y (-200) 200 = true ∧ inB o 1 40 = true
    · rw [if_pos ⟨by rw [c2.1, c2.2.2.2.1]; rfl, by rw [c2.2.1, c2.2.2.2.1]; rfl, c2.2.2.1, c2.2.2.2.2⟩] at hx
      rw [if_pos c2] at hr
      by_cases c3 : nw < 12
      · rw [if_pos c3] at hx
        rw [if_neg (by omega)] at hr
        cases hx
        cases hr
        have x1 := inB_iv c2.1
        have z1 := inB_iv c2.2.1
        have y1 := inB_iv c2.2.2.2.1
        have o1 := inB_iv c2.2.2.2.2
        show _ ∧ ∃ nw2, CP _ _ _ _ (s5 F 14 nw l x z y o) _ _ _ _ _ _ _ _
        refine ⟨rfl, nw + 1, ⟨?_, ?_, a3⟩, ?_, ?_, ⟨va_up_self _ _ _, va_up_self _ _ _, by omega⟩, ?_, ?_, by omega, fun j hj => ?_, fun i hi => ?_, ?_, ?_⟩
        · rw [va_up_ne _ _ (by decide)]; exact a1
        · rw [va_up_ne _ _ (by decide)]; exact a2
        · rw [va_up_ne _ _ (by decide), va_up_ne _ _ (by decide)]; exact b
        · rw [va_up_ne _ _ (by decide), va_up_ne _ _ (by decide)]; exact m
        · rw [va_up_ne _ _ (by decide), va_up_ne _ _ (by decide)]; exact c
        · rw [va_up_ne _ _ (by decide)]; exact e1
        · rw [xAddB_o _ _ _ _ _ (by decide) (by decide) (by decide), s5_o _ _ _ _ _ _ _ (by omega)]
          exact hL j hj
        · unfold nCp
          rw [xAddB_o _ _ _ _ _ (by decide) (by decide) (by decide), s5_o _ _ _ _ _ _ _ (by omega), s5_o _ _ _ _ _ _ _ (by omega), s5_o _ _ _ _ _ _ _ (by omega), s5_o _ _ _ _ _ _ _ (by omega)]
          exact hN i hi
        · refine Or.inr ⟨nw, rfl, ?_, barR_cg (fun q hq => ⟨?_, ?_, ?_, ?_⟩) (fun k q g1 g2 _ => by rw [s5_o _ _ _ _ _ _ _ (by omega)]) (fun k q _ _ hq => s5_i _ _ _ _ _ _ (by omega)) hB⟩
          · unfold isWd
            rw [xAddB_1, xAddB_2, xAddB_3, va_up_self, va_up_self, va_up_self, s5_0, s5_1 F 14, s5_2 F 14, s5_3 F 14, s5_4 F 14]
            refine ⟨?_, rfl, rfl, rfl, ⟨x1.1, ?_⟩, ⟨z1.1, ?_⟩, c2.2.2.1, y1, o1⟩
            · unfold xAddJ; rw [va_up_self, va_up_self]
            · have := w3.2
              have := x1.2
              omega
            · have := w3.2
              have := z1.2
              omega
          · unfold xAddJ; rw [va_up_self, va_up_ne _ _ (by omega)]
          · rw [xAddB_1, va_up_ne _ _ (by omega)]
          · rw [xAddB_2, va_up_ne _ _ (by omega)]
          · rw [xAddB_3, va_up_ne _ _ (by omega)]
        · exact hC.cg (fun i hi => by rw [xAddB_o _ _ _ _ _ (by decide) (by decide) (by decide)]) (fun k a b => xAddB_o _ _ _ _ _ (by omega) (by omega) (by omega)) (fun k q1 q2 => va_up_ne _ _ (by omega)) (fun k a b => s5_o _ _ _ _ _ _ _ (by omega)) (Nat.le_refl _)
      · rw [if_neg c3] at hx
        rw [if_pos (by omega)] at hr
        cases hx
        cases hr
        exact ⟨rfl, nw, hold⟩
    · rw [if_neg (fun q => c2 (by rw [Bool.and_eq_true, Bool.and_eq_true] at q; exact ⟨q.1.1, q.2.1.1, q.2.2.1, q.1.2, q.2.2.2⟩))] at hx
      rw [if_neg c2] at hr
      cases hx
      cases hr
      exact ⟨rfl, nw, hold⟩
  · rw [if_neg c1] at hx hr
    cases hx
    cases hr
    exact ⟨rfl, nw, hold⟩
end OPS

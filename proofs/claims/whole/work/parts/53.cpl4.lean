theorem sF_o (F : Nat → Nat → Int32) (k : Nat) {i j : Nat} (x : Int32) (h : j ≠ i) : sF F k i x k j = F k j := by unfold sF; rw [va_up_self]; simp [upd, h]
theorem pcN_cg {E E2 : Nat → Nat → Nat → Int32} {J J2 : Nat → Nat → Nat} {c : Nat} (h0 : E2 0 = E 0) (h1 : J2 1 c = J 1 c) (h2 : J2 2 c = J 2 c) : pcN E2 J2 c = pcN E J c := by unfold pcN; rw [h0, h1, h2]
theorem pOk_cg {q0 q1 : Nat → Int32} (h : pOk q0) (h2 : q1 2 = q0 2) (h3 : q1 3 = q0 3) (h4 : q1 4 = q0 4) (h5 : q1 5 = q0 5) (h6 : q1 6 = q0 6) : pOk q1 := by unfold pOk at h ⊢; rw [h2, h3, h4, h5, h6]; exact h
theorem rCh_30 (F : Nat → Nat → Int32) (nm nw nc k : Nat) : rChoose F nm nw nc k 30 k = (if chB F nm nw nc k (nq F k) = -9005 then nI (nq F k) - 1 else chB F nm nw nc k (nq F k)) := by unfold rChoose; rw [sF_self]
theorem rCh_31 (F : Nat → Nat → Int32) (nm nw nc k : Nat) : rChoose F nm nw nc k 31 k = bI (chB F nm nw nc k (nq F k) = -9005) := by unfold rChoose; rw [sF_ne _ _ _ (by decide), sF_self]
theorem rCh_30o (F : Nat → Nat → Int32) (nm nw nc : Nat) {k j : Nat} (h : j ≠ k) : rChoose F nm nw nc k 30 j = F 30 j := by unfold rChoose; rw [sF_o _ _ _ h, sF_ne _ _ _ (by decide)]
theorem rCh_31o (F : Nat → Nat → Int32) (nm nw nc : Nat) {k j : Nat} (h : j ≠ k) : rChoose F nm nw nc k 31 j = F 31 j := by unfold rChoose; rw [sF_ne _ _ _ (by decide), sF_o _ _ _ h]
theorem bI_cg {P Q : Prop} [Decidable P] [Decidable Q] (h : P ↔ Q) : bI P = bI Q := by unfold bI; by_cases hp : P; rw [if_pos hp, if_pos (h.mp hp)]; rw [if_neg hp, if_neg (fun q => hp (h.mpr q))]
section CHS
variable {ok : Nat → Nat → Prop} {E E2 : Nat → Nat → Nat → Int32} {J : Nat → Nat → Nat} {F : Nat → Nat → Int32} {nn nc np nb nm nw : Nat} {fp : Nat → Nat} {c p : Nat}
theorem barR_cg {E E2 : Nat → Nat → Nat → Int32} {J J2 : Nat → Nat → Nat} {F F2 : Nat → Nat → Int32} {nb : Nat} : ∀ {nm nw : Nat}, (∀ b, b < nb → J2 0 b = J 0 b ∧ E2 1 b = E 1 b ∧ E2 2 b = E 2 b ∧ E2 3 b = E 3 b) → (∀ k m, 8 ≤ k → k ≤ 12 → m < nm → F2 k m = F k m) → (∀ k m, 14 ≤ k → k ≤ 18 → m < nw → F2 k m = F k m) → barR E J F nb nm nw → barR E2 J2 F2 nb nm nw := by
  induction nb with
  | zero => intro nm nw _ _ _ h; exact h
  | succ b ih =>
    intro nm nw hE hm hw h
    obtain ⟨e0, e1, e2, e3⟩ := hE b (by omega)
    rcases h with ⟨m, rfl, h1, h2⟩ | ⟨u, rfl, h1, h2⟩
    · refine Or.inl ⟨m, rfl, ?_, ih (fun b hb => hE b (by omega)) (fun k m a b c => hm k m a b (by omega)) hw h2⟩
      unfold isMk at h1 ⊢
      rw [e0, e1, e2, e3, hm 8 m (by omega) (by omega) (by omega), hm 9 m (by omega) (by omega) (by omega), hm 10 m (by omega) (by omega) (by omega), hm 11 m (by omega) (by omega) (by omega), hm 12 m (by omega) (by omega) (by omega)]
      exact h1
    · refine Or.inr ⟨u, rfl, ?_, ih (fun b hb => hE b (by omega)) hm (fun k m a b c => hw k m a b (by omega)) h2⟩
      unfold isWd at h1 ⊢
      rw [e0, e1, e2, e3, hw 14 u (by omega) (by omega) (by omega), hw 15 u (by omega) (by omega) (by omega), hw 16 u (by omega) (by omega) (by omega), hw 17 u (by omega) (by omega) (by omega), hw 18 u (by omega) (by omega) (by omega)]
      exact h1
theorem barR_ch (hch : chR E E2 J nb np (fp c + p)) (h : barR E J F nb nm nw) (nc : Nat) : barR E2 J (rChoose F nm nw nc (2 * c + p)) nb nm nw :=
  barR_cg (fun b _ => ⟨rfl, by rw [hch.1 1 (by decide) (by decide) (by decide) (by decide) (by decide)], by rw [hch.1 2 (by decide) (by decide) (by decide) (by decide) (by decide)], by rw [hch.1 3 (by decide) (by decide) (by decide) (by decide) (by decide)]⟩) (fun k m a b _ => by rw [rChoose_ne _ _ _ _ _ (by omega) (by omega)]) (fun k m a b _ => by rw [rChoose_ne _ _ _ _ _ (by omega) (by omega)]) h
theorem CV.choose (h : CV ok E J F nn nc np fp) (hc40 : nc ≤ 40) (hbar : barR E J F nb nm nw) (hc : c < nc) (hp : p < pcN E J c) (hok : ∀ c2 p2, c2 < c → p2 < pcN E J c2 → ok c2 p2) (hch : chR E E2 J nb np (fp c + p)) : CV (fun c2 p2 => ok c2 p2 ∨ (c2 = c ∧ p2 = p)) E2 J (rChoose F nm nw nc (2 * c + p)) nn nc np fp := by
  obtain ⟨k1, k2, k3⟩ := chos_eq h hc40 hbar hc hp hok
  have hch1 := hch
  obtain ⟨h1, h2, h3, h4, h5⟩ := hch
  have z0 : E2 0 = E 0 := h1 0 (by decide) (by decide) (by decide) (by decide) (by decide)
  have z4 : E2 4 = E 4 := h1 4 (by decide) (by decide) (by decide) (by decide) (by decide)
  have zp : ∀ c, pcN E2 J c = pcN E J c := fun c => pcN_cg z0 rfl rfl
  have hF : ∀ j, j ≠ 30 → j ≠ 31 → rChoose F nm nw nc (2 * c + p) j = F j := fun j a b => rChoose_ne _ _ _ _ _ a b
  have hp2 := (pcN_le E J c).2
  refine ⟨fun c2 hc2 => ?_, h.2.1, h.2.2.1, fun c2 p2 hc2 hpp => ?_⟩
  · have g := h.1 c2 hc2
    unfold cCp at g ⊢
    rw [z4, zp, hF 20 (by decide) (by decide), hF 21 (by decide) (by decide), hF 22 (by decide) (by decide), hF 23 (by decide) (by decide), hF 24 (by decide) (by decide)]
    exact g
  · rw [zp] at hpp
    obtain ⟨g0, g1⟩ := h.2.2.2 c2 p2 hc2 hpp
    have hpp2 := (pcN_le E J c2).2
    by_cases e : c2 = c ∧ p2 = p
    · obtain ⟨rfl, rfl⟩ := e
      have ne : ∀ k, k ≠ 8 → k ≠ 9 → E2 5 (fp c2 + p2) k = E 5 (fp c2 + p2) k := fun k a b => by rw [h3, va_up_ne _ _ a, va_up_ne _ _ b]
      have e8 : E2 5 (fp c2 + p2) 8 = xChos E J nb np (fp c2 + p2) := by rw [h3, va_up_self]
      have e9 : E2 5 (fp c2 + p2) 9 = bI (xBest E J nb np (fp c2 + p2) = -1) := by rw [h3, va_up_ne _ _ (by decide), va_up_self]
      have hJ : J 3 (fp c2 + p2) = c2 := g0.1
      refine ⟨?_, fun _ => ?_⟩
      · unfold pC0 at g0 ⊢
        rw [ne 1 (by decide) (by decide), ne 2 (by decide) (by decide), ne 3 (by decide) (by decide), ne 4 (by decide) (by decide), ne 5 (by decide) (by decide), hF 25 (by decide) (by decide), hF 26 (by decide) (by decide), hF 27 (by decide) (by decide), hF 28 (by decide) (by decide), hF 29 (by decide) (by decide)]
        exact ⟨g0.1, g0.2.1, g0.2.2.1, g0.2.2.2.1, g0.2.2.2.2.1, g0.2.2.2.2.2.1, pOk_cg g0.2.2.2.2.2.2 (ne 2 (by decide) (by decide)) (ne 3 (by decide) (by decide)) (ne 4 (by decide) (by decide)) (ne 5 (by decide) (by decide)) (ne 6 (by decide) (by decide))⟩
      · have e30 : xChos E J nb np (fp c2 + p2) = rChoose F nm nw nc (2 * c2 + p2) 30 (2 * c2 + p2) := by rw [rCh_30, k2]
        refine ⟨by rw [e8, e30], ?_, ?_, ?_, ?_, fun t ht => ?_⟩
        · rw [← e30]; exact k3
        · rw [e9, rCh_31]; exact bI_cg k1
        · rw [rCh_31]; exact bI_01 rfl
        · rw [h4, z4, e8, hJ]
          exact pF_q (ne 1 (by decide) (by decide)).symm (ne 2 (by decide) (by decide)).symm (ne 3 (by decide) (by decide)).symm (ne 4 (by decide) (by decide)).symm (ne 5 (by decide) (by decide)).symm (ne 6 (by decide) (by decide)).symm
        · obtain ⟨y1, y2⟩ := h5 t ht
          rw [y1, y2, z4, e8, hJ, pX_q (ne 2 (by decide) (by decide)).symm (ne 4 (by decide) (by decide)).symm, pY_q (ne 3 (by decide) (by decide)).symm (ne 5 (by decide) (by decide)).symm (ne 6 (by decide) (by decide)).symm]
          exact ⟨rfl, rfl⟩
    · have hi : fp c2 + p2 ≠ fp c + p := fun z => e (h.inj hc2 hc hpp hp z)
      have hk : 2 * c2 + p2 ≠ 2 * c + p := by omega
      obtain ⟨y5, y6, y7, y8⟩ := h2 _ hi
      refine ⟨?_, fun o => ?_⟩
      · unfold pC0 at g0 ⊢
        rw [y5, hF 25 (by decide) (by decide), hF 26 (by decide) (by decide), hF 27 (by decide) (by decide), hF 28 (by decide) (by decide), hF 29 (by decide) (by decide)]
        exact g0
      · have g1 := g1 (o.resolve_right e)
        unfold pC1 at g1 ⊢
        rw [y5, y6, y7, y8, z4, rCh_30o _ _ _ _ hk, rCh_31o _ _ _ _ hk]
        exact g1
theorem CV.weak {ok2 : Nat → Nat → Prop} (h : CV ok E J F nn nc np fp) (hw : ∀ c p, c < nc → p < pcN E J c → ok2 c p → ok c p) : CV ok2 E J F nn nc np fp := ⟨h.1, h.2.1, h.2.2.1, fun c p hc hp => ⟨(h.2.2.2 c p hc hp).1, fun o => (h.2.2.2 c p hc hp).2 (hw c p hc hp o)⟩⟩
end CHS
/-- the choices of a new curve's parts -/
theorem CV.chS {ok : Nat → Nat → Prop} {E : Nat → Nat → Nat → Int32} {J : Nat → Nat → Nat} {F : Nat → Nat → Int32} {nn nc np nb nm nw : Nat} {fp : Nat → Nat} {c : Nat} (h : CV ok E J F nn nc np fp) (hc40 : nc ≤ 40) (hbar : barR E J F nb nm nw) (hc : c < nc) (hok : ∀ c2 p2, c2 < c → p2 < pcN E J c2 → ok c2 p2) : ∀ (k : Nat) (E2 : Nat → Nat → Nat → Int32), k ≤ pcN E J c → chS E J nb np (fp c) k E2 → CV (fun c2 p2 => ok c2 p2 ∨ (c2 = c ∧ p2 < k)) E2 J (chLoop F nm nw nc c k) nn nc np fp ∧ barR E2 J (chLoop F nm nw nc c k) nb nm nw ∧ (∀ j, j ≠ 5 → j ≠ 6 → j ≠ 7 → j ≠ 8 → j ≠ 9 → E2 j = E j) := by
  intro k
  induction k with
  | zero =>
    rintro E2 - rfl
    exact ⟨h.weak (fun c2 p2 _ _ o => o.elim id (fun z => absurd z.2 (Nat.not_lt_zero _))), hbar, fun _ _ _ _ _ _ => rfl⟩
  | succ k ih =>
    rintro E2 hk ⟨E1, h1, h2⟩
    obtain ⟨i1, i2, i3⟩ := ih E1 (by omega) h1
    have z0 : E1 0 = E 0 := i3 0 (by decide) (by decide) (by decide) (by decide) (by decide)
    have zp : ∀ c, pcN E1 J c = pcN E J c := fun c => pcN_cg z0 rfl rfl
    have hp : k < pcN E1 J c := by rw [zp]; omega
    have j1 := i1.choose hc40 i2 hc hp (fun c2 p2 a b => Or.inl (hok c2 p2 a (by rw [← zp]; exact b))) h2
    refine ⟨j1.weak (fun c2 p2 _ _ o => ?_), barR_ch h2 i2 nc, fun j a b c d e => ?_⟩
    · rcases o with o | ⟨o1, o2⟩
      · exact Or.inl (Or.inl o)
      · by_cases e : p2 = k
        · exact Or.inr ⟨o1, e⟩
        · exact Or.inl (Or.inr ⟨o1, by omega⟩)
    · rw [h2.1 j a b c d e]; exact i3 j a b c d e
/-- again: parts in their order -/
theorem CV.again {E : Nat → Nat → Nat → Int32} {J : Nat → Nat → Nat} {F : Nat → Nat → Int32} {nn nc np nb nm nw : Nat} {fp : Nat → Nat} (h : CV (fun _ _ => True) E J F nn nc np fp) (hc40 : nc ≤ 40) (hbar : barR E J F nb nm nw) : ∀ (c : Nat), c ≤ nc → ∀ (p : Nat) (E2 : Nat → Nat → Nat → Int32) (n : Nat), p ≤ (if c < nc then pcN E J c else 0) → agR E J nb np (fp c + p) E2 n → CV (fun _ _ => True) E2 J (agI nm nw nc c (agO F nm nw nc (pcN E J) c) p).1 nn nc np fp ∧ barR E2 J (agI nm nw nc c (agO F nm nw nc (pcN E J) c) p).1 nb nm nw ∧ (∀ j, j ≠ 5 → j ≠ 6 → j ≠ 7 → j ≠ 8 → j ≠ 9 → E2 j = E j) ∧ n = (agI nm nw nc c (agO F nm nw nc (pcN E J) c) p).2 := by
  intro c
  induction c with
  | zero =>
    intro hc0 p
    induction p with
    | zero =>
      rintro E2 n - hag
      rw [Nat.add_zero, h.2.1] at hag
      obtain ⟨rfl, rfl⟩ := hag
      exact ⟨h, hbar, fun _ _ _ _ _ _ => rfl, rfl⟩
    | succ p ihp =>
      rintro E2 n hp ⟨E1, n1, a1, a2, a3⟩
      by_cases hcn : 0 < nc
      · rw [if_pos hcn] at hp
        obtain ⟨i1, i2, i3, i4⟩ := ihp E1 n1 (by rw [if_pos hcn]; omega) a1
        have zp : ∀ c, pcN E1 J c = pcN E J c := fun c => pcN_cg (i3 0 (by decide) (by decide) (by decide) (by decide) (by decide)) rfl rfl
        have j1 := i1.choose hc40 i2 hcn (p := p) (by rw [zp]; omega) (fun c2 _ a _ => trivial) a2
        have j0 := i1.2.2.2 0 p hcn (by rw [zp]; omega)
        have j2 := j1.2.2.2 0 p hcn (by rw [pcN_cg (a2.1 0 (by decide) (by decide) (by decide) (by decide) (by decide)) rfl rfl, zp]; omega)
        refine ⟨j1.weak (fun _ _ _ _ _ => Or.inl trivial), barR_ch a2 i2 nc, fun j a b c d e => by rw [a2.1 j a b c d e]; exact i3 j a b c d e, ?_⟩
        have a3 : n = n1 + (if E2 5 (fp 0 + p) 8 = E1 5 (fp 0 + p) 8 then 0 else 1) := a3
        rw [a3, i4, (j0.2 trivial).1, (j2.2 (Or.inl trivial)).1]
        rfl
      · rw [if_neg hcn] at hp
        omega
  | succ c ihc =>
    intro hc0 p
    have hcn : c < nc := by omega
    have hfp : fp (c + 1) = fp c + pcN E J c := (h.1 c hcn).2.2.2.2.2.2.2.2.2.2.2
    induction p with
    | zero =>
      rintro E2 n - hag
      rw [Nat.add_zero, hfp] at hag
      exact ihc (by omega) (pcN E J c) E2 n (by rw [if_pos hcn]; exact Nat.le_refl _) hag
    | succ p ihp =>
      rintro E2 n hp ⟨E1, n1, a1, a2, a3⟩
      by_cases hcn : c + 1 < nc
      · rw [if_pos hcn] at hp
        obtain ⟨i1, i2, i3, i4⟩ := ihp E1 n1 (by rw [if_pos hcn]; omega) a1
        have zp : ∀ c, pcN E1 J c = pcN E J c := fun c => pcN_cg (i3 0 (by decide) (by decide) (by decide) (by decide) (by decide)) rfl rfl
        have j1 := i1.choose hc40 i2 hcn (p := p) (by rw [zp]; omega) (fun c2 _ a _ => trivial) a2
        have j0 := i1.2.2.2 (c + 1) p hcn (by rw [zp]; omega)
        have j2 := j1.2.2.2 (c + 1) p hcn (by rw [pcN_cg (a2.1 0 (by decide) (by decide) (by decide) (by decide) (by decide)) rfl rfl, zp]; omega)
        refine ⟨j1.weak (fun _ _ _ _ _ => Or.inl trivial), barR_ch a2 i2 nc, fun j a b c d e => by rw [a2.1 j a b c d e]; exact i3 j a b c d e, ?_⟩
        have a3 : n = n1 + (if E2 5 (fp (c + 1) + p) 8 = E1 5 (fp (c + 1) + p) 8 then 0 else 1) := a3
        rw [a3, i4, (j0.2 trivial).1, (j2.2 (Or.inl trivial)).1]
        rfl
      · rw [if_neg hcn] at hp
        omega

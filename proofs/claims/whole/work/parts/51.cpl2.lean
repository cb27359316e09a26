theorem tn_cg {gx gy gx2 gy2 : Nat → Int} (h : ∀ k, k < 4 → gx k = gx2 k ∧ gy k = gy2 k) {i j : Nat} (hi : i < 4) (hj : j < 4) (x y : Int) : tn gx gy i j x y = tn gx2 gy2 i j x y := by
  unfold tn
  rw [(h i hi).1, (h i hi).2, (h j hj).1, (h j hj).2]
theorem tw_cg {gx gy gx2 gy2 : Nat → Int} (h : ∀ k, k < 4 → gx k = gx2 k ∧ gy k = gy2 k) {i j : Nat} (hi : i < 4) (hj : j < 4) (x y z : Int) : tw gx gy i j x y z = tw gx2 gy2 i j x y z := by
  unfold tw
  rw [(h i hi).1, (h i hi).2, (h j hj).1, (h j hj).2]
theorem inT_cg {gx gy gx2 gy2 : Nat → Int} (h : ∀ k, k < 4 → gx k = gx2 k ∧ gy k = gy2 k) {o : Nat} (ho : o < 4) {x y z : Int} (q : inT gx gy (wi o) (wj o) (wk o) x y z) : inT gx2 gy2 (wi o) (wj o) (wk o) x y z := by
  obtain ⟨l1, l2, l3⟩ := wo_lt ho
  unfold inT at q ⊢
  rw [tn_cg h (by omega) (by omega), tw_cg h (by omega) (by omega), tw_cg h (by omega) l3, tw_cg h l3 (by omega), (h _ l3).1, (h _ l3).2] at q
  exact q
theorem mtI_cg {ax ay bx by_ ax2 ay2 bx2 by2 : Nat → Int} (ha : ∀ k, k < 4 → ax k = ax2 k ∧ ay k = ay2 k) (hb : ∀ k, k < 4 → bx k = bx2 k ∧ by_ k = by2 k) (h : mtI ax ay bx by_) : mtI ax2 ay2 bx2 by2 := by
  rcases h with ⟨o, ho, h⟩ | ⟨o, ho, h⟩ | ⟨i, j, k, l, h1, h2, h3, h4, h⟩
  · refine Or.inl ⟨o, ho, ?_⟩
    rw [(hb 0 (by omega)).1, (hb 0 (by omega)).2] at h
    exact inT_cg ha ho h
  · refine Or.inr (Or.inl ⟨o, ho, ?_⟩)
    rw [(ha 0 (by omega)).1, (ha 0 (by omega)).2] at h
    exact inT_cg hb ho h
  · refine Or.inr (Or.inr ⟨i, j, k, l, h1, h2, h3, h4, ?_⟩)
    rw [(ha i (by omega)).1, (ha i (by omega)).2, (ha j h2).1, (ha j h2).2, (hb k (by omega)).1, (hb k (by omega)).2, (hb l h4).1, (hb l h4).2] at h
    exact h
theorem mtI_cgI {ax ay bx by_ ax2 ay2 bx2 by2 : Nat → Int} (ha : ∀ k, k < 4 → ax k = ax2 k ∧ ay k = ay2 k) (hb : ∀ k, k < 4 → bx k = bx2 k ∧ by_ k = by2 k) : mtI ax ay bx by_ ↔ mtI ax2 ay2 bx2 by2 :=
  ⟨mtI_cg ha hb, mtI_cg (fun k hk => ⟨(ha k hk).1.symm, (ha k hk).2.symm⟩) (fun k hk => ⟨(hb k hk).1.symm, (hb k hk).2.symm⟩)⟩
/-- the reference's four rows against numbers -/
theorem rMeet_of {a1 a2 b1 b2 : Nat → Int64} {gx gy hx hy : Nat → Int32} (h1 : ∀ k, k < 4 → a1 k = (gx k).toInt64 ∧ a2 k = (gy k).toInt64) (h2 : ∀ k, k < 4 → b1 k = (hx k).toInt64 ∧ b2 k = (hy k).toInt64) (bgx : near 4 gx) (bgy : near 4 gy) (bhx : near 4 hx) (bhy : near 4 hy) : rMeet (gOf a1 a2 b1 b2) = true ↔ mtI (gI gx) (gI gy) (gI hx) (gI hy) := by
  have c1 : ∀ k, k < 4 → (a1 k).toInt = (gx k).toInt := fun k hk => by rw [(h1 k hk).1, Int32.toInt_toInt64]
  have c2 : ∀ k, k < 4 → (a2 k).toInt = (gy k).toInt := fun k hk => by rw [(h1 k hk).2, Int32.toInt_toInt64]
  have c3 : ∀ k, k < 4 → (b1 k).toInt = (hx k).toInt := fun k hk => by rw [(h2 k hk).1, Int32.toInt_toInt64]
  have c4 : ∀ k, k < 4 → (b2 k).toInt = (hy k).toInt := fun k hk => by rw [(h2 k hk).2, Int32.toInt_toInt64]
  have n1 : nearL (gOf a1 a2 b1 b2 32) := fun k hk => by show bd 3000 (a1 k).toInt; rw [c1 k hk]; exact bgx k hk
  have n2 : nearL (gOf a1 a2 b1 b2 33) := fun k hk => by show bd 3000 (a2 k).toInt; rw [c2 k hk]; exact bgy k hk
  have n3 : nearL (gOf a1 a2 b1 b2 34) := fun k hk => by show bd 3000 (b1 k).toInt; rw [c3 k hk]; exact bhx k hk
  have n4 : nearL (gOf a1 a2 b1 b2 35) := fun k hk => by show bd 3000 (b2 k).toInt; rw [c4 k hk]; exact bhy k hk
  rw [rMeet_mt n1 n2 n3 n4]
  exact mtI_cgI (fun k hk => ⟨c1 k hk, c2 k hk⟩) (fun k hk => ⟨c3 k hk, c4 k hk⟩)
theorem rcX_v (x w : Int32) : rcX x w 0 = x ∧ rcX x w 1 = x + w ∧ rcX x w 2 = x + w ∧ rcX x w 3 = x := by unfold rcX; simp [upd]
theorem rcY_v (y l : Int32) : rcY y l 0 = y ∧ rcY y l 1 = y ∧ rcY y l 2 = y + l ∧ rcY y l 3 = y + l := by unfold rcY; simp [upd]
theorem trX_v (x z : Int32) : trX x z 0 = x ∧ trX x z 1 = z ∧ trX x z 2 = z := by unfold trX; simp [upd]
theorem trY_v (y o : Int32) : trY y o 0 = y ∧ trY y o 1 = y - o ∧ trY y o 2 = y + o := by unfold trY; simp [upd]
theorem rect_ok {x y w l : Int32} (hx : iv 0 1000 x) (hy : iv (-200) 200 y) (hw : iv 1 200 w) (hl : iv 1 200 l) : near 4 (rcX x w) ∧ near 4 (rcY y l) ∧ nfl (gI (rcX x w)) (gI (rcY y l)) := by
  unfold iv at *
  obtain ⟨a0, a1, a2, a3⟩ := rcX_v x w
  obtain ⟨b0, b1, b2, b3⟩ := rcY_v y l
  have e1 : (x + w).toInt = x.toInt + w.toInt := i_add (by unfold bd; omega)
  have e2 : (y + l).toInt = y.toInt + l.toInt := i_add (by unfold bd; omega)
  refine ⟨fun k hk => ?_, fun k hk => ?_, 0, 1, 2, by omega, by omega, by omega, ?_⟩
  · rcases lt4c hk with rfl | rfl | rfl | rfl
    · rw [a0]; unfold bd; omega
    · rw [a1, e1]; unfold bd; omega
    · rw [a2, e1]; unfold bd; omega
    · rw [a3]; unfold bd; omega
  · rcases lt4c hk with rfl | rfl | rfl | rfl
    · rw [b0]; unfold bd; omega
    · rw [b1]; unfold bd; omega
    · rw [b2, e2]; unfold bd; omega
    · rw [b3, e2]; unfold bd; omega
  · unfold tn gI
    rw [a0, a1, a2, b0, b1, b2, e1, e2]
    have h := Int.mul_pos (show 0 < w.toInt by omega) (show 0 < l.toInt by omega)
    intro z
    have e : (x.toInt + w.toInt - x.toInt) * (y.toInt + l.toInt - y.toInt) - (y.toInt - y.toInt) * (x.toInt + w.toInt - x.toInt) = w.toInt * l.toInt := by grind
    omega
theorem tria_ok {x z y o : Int32} (hx : iv 0 1000 x) (hz : iv 0 1000 z) (hne : x ≠ z) (hy : iv (-200) 200 y) (ho : iv 1 40 o) : near 3 (trX x z) ∧ near 3 (trY y o) ∧ nflN 3 (gI (trX x z)) (gI (trY y o)) := by
  have hne2 : x.toInt ≠ z.toInt := fun q => hne (Int32.toInt_inj.mp q)
  unfold iv at *
  obtain ⟨a0, a1, a2⟩ := trX_v x z
  obtain ⟨b0, b1, b2⟩ := trY_v y o
  have e1 : (y - o).toInt = y.toInt - o.toInt := i_sub (by unfold bd; omega)
  have e2 : (y + o).toInt = y.toInt + o.toInt := i_add (by unfold bd; omega)
  refine ⟨fun k hk => ?_, fun k hk => ?_, 0, 1, 2, by omega, by omega, by omega, ?_⟩
  · rcases (show k = 0 ∨ k = 1 ∨ k = 2 by omega) with rfl | rfl | rfl
    · rw [a0]; unfold bd; omega
    · rw [a1]; unfold bd; omega
    · rw [a2]; unfold bd; omega
  · rcases (show k = 0 ∨ k = 1 ∨ k = 2 by omega) with rfl | rfl | rfl
    · rw [b0]; unfold bd; omega
    · rw [b1, e1]; unfold bd; omega
    · rw [b2, e2]; unfold bd; omega
  · unfold tn gI
    rw [a0, a1, a2, b0, b1, b2, e1, e2]
    intro q
    have e : (z.toInt - x.toInt) * (y.toInt + o.toInt - y.toInt) - (y.toInt - o.toInt - y.toInt) * (z.toInt - x.toInt) = 2 * ((z.toInt - x.toInt) * o.toInt) := by grind
    have h : (z.toInt - x.toInt) * o.toInt = 0 := by omega
    rcases Int.mul_eq_zero.mp h with c | c <;> omega
theorem near_h4 {g : Nat → Int32} (h : near 3 g) : near 4 (h4 g) := fun k hk => by
  unfold h4
  split
  · exact h 0 (by omega)
  · exact h k (by omega)
theorem metB_congr2 {f : Nat → Int32} {n : Nat} {gx gy hx hy hx2 hy2 : Nat → Int32} {f2 : Nat → Int32} {m : Nat} (hg : ∀ k, k < m → hx k = hx2 k ∧ hy k = hy2 k) : metB f n gx gy f2 m hx hy = metB f n gx gy f2 m hx2 hy2 := by
  unfold metB
  rw [edB_congr (fun k _ => ⟨rfl, rfl⟩) hg, edB_congr hg (fun k _ => ⟨rfl, rfl⟩)]
/-- a hull against a rectangle, a triangle, a hull: class and reference -/
theorem eq_mark {q0 c0 : Nat → Int32} {n : Nat} (hp : pOk q0) (hs : c0 4 = 1 ∨ c0 4 = -1) (hn : n < 24) {l x y w h : Int32} (hx : iv 0 1000 x) (hy : iv (-200) 200 y) (hw : iv 1 200 w) (hl : iv 1 200 h) {a1 a2 : Nat → Int64} (ha : ∀ k, k < 4 → a1 k = (pX q0 k).toInt64 ∧ a2 k = (pY q0 c0 (nI n) k).toInt64) : metB (pF q0 c0 (nI n)) 4 (pX q0) (pY q0 c0 (nI n)) (frF l (rcX x w) (rcY y h) 3) 4 (rcX x w) (rcY y h) = (decide (l = q0 1) && rMeet (gOf a1 a2 (q4 x.toInt64 (x + w).toInt64 (x + w).toInt64 x.toInt64) (q4 y.toInt64 y.toInt64 (y + h).toInt64 (y + h).toInt64))) := by
  obtain ⟨n1, n2, f1⟩ := hull_ok hp hs hn
  obtain ⟨m1, m2, f2⟩ := rect_ok hx hy hw hl
  obtain ⟨e0, e1, e2, e3⟩ := rcX_v x w
  obtain ⟨g0, g1, g2, g3⟩ := rcY_v y h
  have hr := rMeet_of (b1 := q4 x.toInt64 (x + w).toInt64 (x + w).toInt64 x.toInt64) (b2 := q4 y.toInt64 y.toInt64 (y + h).toInt64 (y + h).toInt64) (hx := rcX x w) (hy := rcY y h) ha (fun k hk => by
    rcases lt4c hk with rfl | rfl | rfl | rfl
    · rw [e0, g0]; exact ⟨rfl, rfl⟩
    · rw [e1, g1]; exact ⟨rfl, rfl⟩
    · rw [e2, g2]; exact ⟨rfl, rfl⟩
    · rw [e3, g3]; exact ⟨rfl, rfl⟩) n1 n2 m1 m2
  rw [Bool.eq_iff_iff, Bool.and_eq_true, decide_eq_true_eq, hr]
  refine (metB4 n1 n2 m1 m2 f1 f2).trans ⟨fun z => ⟨z.1.symm, z.2⟩, fun z => ⟨z.1.symm, z.2⟩⟩
theorem eq_wedge {q0 c0 : Nat → Int32} {n : Nat} (hp : pOk q0) (hs : c0 4 = 1 ∨ c0 4 = -1) (hn : n < 24) {l x z y o : Int32} (hx : iv 0 1000 x) (hz : iv 0 1000 z) (hne : x ≠ z) (hy : iv (-200) 200 y) (ho : iv 1 40 o) {a1 a2 : Nat → Int64} (ha : ∀ k, k < 4 → a1 k = (pX q0 k).toInt64 ∧ a2 k = (pY q0 c0 (nI n) k).toInt64) : metB (pF q0 c0 (nI n)) 4 (pX q0) (pY q0 c0 (nI n)) (frF l (trX x z) (trY y o) 2) 3 (trX x z) (trY y o) = (decide (l = q0 1) && rMeet (gOf a1 a2 (q4 x.toInt64 z.toInt64 z.toInt64 x.toInt64) (q4 y.toInt64 (y - o).toInt64 (y + o).toInt64 y.toInt64))) := by
  obtain ⟨n1, n2, f1⟩ := hull_ok hp hs hn
  obtain ⟨m1, m2, f2⟩ := tria_ok hx hz hne hy ho
  obtain ⟨e0, e1, e2⟩ := trX_v x z
  obtain ⟨g0, g1, g2⟩ := trY_v y o
  have hr := rMeet_of (b1 := q4 x.toInt64 z.toInt64 z.toInt64 x.toInt64) (b2 := q4 y.toInt64 (y - o).toInt64 (y + o).toInt64 y.toInt64) (hx := h4 (trX x z)) (hy := h4 (trY y o)) ha (fun k hk => by
    rcases lt4c hk with rfl | rfl | rfl | rfl
    · show _ = (trX x z 0).toInt64 ∧ _ = (trY y o 0).toInt64; rw [e0, g0]; exact ⟨rfl, rfl⟩
    · show _ = (trX x z 1).toInt64 ∧ _ = (trY y o 1).toInt64; rw [e1, g1]; exact ⟨rfl, rfl⟩
    · show _ = (trX x z 2).toInt64 ∧ _ = (trY y o 2).toInt64; rw [e2, g2]; exact ⟨rfl, rfl⟩
    · show _ = (trX x z 0).toInt64 ∧ _ = (trY y o 0).toInt64; rw [e0, g0]; exact ⟨rfl, rfl⟩) n1 n2 (near_h4 m1) (near_h4 m2)
  rw [Bool.eq_iff_iff, Bool.and_eq_true, decide_eq_true_eq, hr]
  refine (metB3 n1 n2 m1 m2 f1 f2).trans ⟨fun z => ⟨z.1.symm, z.2⟩, fun z => ⟨z.1.symm, z.2⟩⟩
theorem eq_hull {q0 c0 q1 c1 : Nat → Int32} {n n1 : Nat} (hp : pOk q0) (hs : c0 4 = 1 ∨ c0 4 = -1) (hn : n < 24) (hp1 : pOk q1) (hs1 : c1 4 = 1 ∨ c1 4 = -1) (hn1 : n1 < 24) {a1 a2 b1 b2 : Nat → Int64} (ha : ∀ k, k < 4 → a1 k = (pX q0 k).toInt64 ∧ a2 k = (pY q0 c0 (nI n) k).toInt64) (hb : ∀ k, k < 4 → b1 k = (pX q1 k).toInt64 ∧ b2 k = (pY q1 c1 (nI n1) k).toInt64) (hl : q1 1 = q0 1) : metB (pF q0 c0 (nI n)) 4 (pX q0) (pY q0 c0 (nI n)) (pF q1 c1 (nI n1)) 4 (pX q1) (pY q1 c1 (nI n1)) = rMeet (gOf a1 a2 b1 b2) := by
  obtain ⟨k1, k2, f1⟩ := hull_ok hp hs hn
  obtain ⟨m1, m2, f2⟩ := hull_ok hp1 hs1 hn1
  have hr := rMeet_of ha hb k1 k2 m1 m2
  rw [Bool.eq_iff_iff, hr]
  exact (metB4 k1 k2 m1 m2 f1 f2).trans ⟨fun z => z.2, fun z => ⟨hl.symm, z⟩⟩

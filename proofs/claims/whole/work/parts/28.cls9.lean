theorem lab_ne {lab : Nat → Nat} {x y k : Nat} (h : lab x = k + 1) (h2 : lab y = k + 2) : x ≠ y := fun z => by
  rw [z] at h
  omega
theorem fTrn_congr {gx gy gx2 gy2 hx hy hx2 hy2 : Nat → Int32} {i j k : Nat} (h1 : gx i = gx2 i) (h2 : gx j = gx2 j) (h3 : gy i = gy2 i) (h4 : gy j = gy2 j) (h5 : hx k = hx2 k) (h6 : hy k = hy2 k) : fTrn gx gy i j hx hy k = fTrn gx2 gy2 i j hx2 hy2 k := by
  unfold fTrn
  rw [h1, h2, h3, h4, h5, h6]
theorem anyP_congr {f g : Nat → Int32} (n : Nat) (h : ∀ k, k < n → f k = g k) : anyP f n = anyP g n := by
  induction n with
  | zero => rfl
  | succ n ih => rw [anyP, anyP, ih (fun k hk => h k (by omega)), h n (by omega)]
theorem anyN_congr {f g : Nat → Int32} (n : Nat) (h : ∀ k, k < n → f k = g k) : anyN f n = anyN g n := by
  induction n with
  | zero => rfl
  | succ n ih => rw [anyN, anyN, ih (fun k hk => h k (by omega)), h n (by omega)]
theorem allB_congr {s : Bool} {f g : Nat → Int32} (n : Nat) (h : ∀ k, k < n → f k = g k) : allB s f n = allB s g n := by
  induction n with
  | zero => rfl
  | succ n ih => rw [allB, allB, ih (fun k hk => h k (by omega)), h n (by omega)]
theorem sepB_congr {n : Nat} {gx gy gx2 gy2 : Nat → Int32} {i j m : Nat} {hx hy hx2 hy2 : Nat → Int32} (hg : ∀ k, k < n → gx k = gx2 k ∧ gy k = gy2 k) (hh : ∀ k, k < m → hx k = hx2 k ∧ hy k = hy2 k) (hi : i < n) (hj : j < n) : sepB n gx gy i j m hx hy = sepB n gx2 gy2 i j m hx2 hy2 := by
  have a1 : ∀ k, k < n → fTrn gx gy i j gx gy k = fTrn gx2 gy2 i j gx2 gy2 k := fun k hk => fTrn_congr (hg i hi).1 (hg j hj).1 (hg i hi).2 (hg j hj).2 (hg k hk).1 (hg k hk).2
  have a2 : ∀ k, k < m → fTrn gx gy i j hx hy k = fTrn gx2 gy2 i j hx2 hy2 k := fun k hk => fTrn_congr (hg i hi).1 (hg j hj).1 (hg i hi).2 (hg j hj).2 (hh k hk).1 (hh k hk).2
  unfold sepB
  rw [anyP_congr n a1, anyN_congr n a1, allB_congr m a2]
theorem edB_congr {n : Nat} {gx gy gx2 gy2 : Nat → Int32} {m : Nat} {hx hy hx2 hy2 : Nat → Int32} (hg : ∀ k, k < n → gx k = gx2 k ∧ gy k = gy2 k) (hh : ∀ k, k < m → hx k = hx2 k ∧ hy k = hy2 k) : edB n gx gy m hx hy = edB n gx2 gy2 m hx2 hy2 := by
  rw [Bool.eq_iff_iff, edB_iff, edB_iff]
  constructor
  · rintro ⟨i, j, h1, h2, h3⟩
    exact ⟨i, j, h1, h2, by rw [← sepB_congr hg hh (by omega) h2]; exact h3⟩
  · rintro ⟨i, j, h1, h2, h3⟩
    exact ⟨i, j, h1, h2, by rw [sepB_congr hg hh (by omega) h2]; exact h3⟩
theorem mn_congr {g h : Nat → Int32} (n : Nat) (e : ∀ k, k ≤ n → g k = h k) : mn g n = mn h n := by
  induction n with
  | zero => exact e 0 (Nat.le_refl _)
  | succ n ih => rw [mn, mn, ih (fun k hk => e k (by omega)), e (n + 1) (Nat.le_refl _)]
theorem mx_congr {g h : Nat → Int32} (n : Nat) (e : ∀ k, k ≤ n → g k = h k) : mx g n = mx h n := by
  induction n with
  | zero => exact e 0 (Nat.le_refl _)
  | succ n ih => rw [mx, mx, ih (fun k hk => e k (by omega)), e (n + 1) (Nat.le_refl _)]
theorem frF_congr {l : Int32} {gx gy gx2 gy2 : Nat → Int32} {n : Nat} (e : ∀ k, k ≤ n → gx k = gx2 k ∧ gy k = gy2 k) : frF l gx gy n = frF l gx2 gy2 n := by
  unfold frF
  rw [mn_congr n (fun k hk => (e k hk).1), mx_congr n (fun k hk => (e k hk).1), mn_congr n (fun k hk => (e k hk).2), mx_congr n (fun k hk => (e k hk).2)]
theorem metB_congr {f : Nat → Int32} {n : Nat} {gx gy gx2 gy2 : Nat → Int32} {f2 : Nat → Int32} {m : Nat} {hx hy : Nat → Int32} (hg : ∀ k, k < n → gx k = gx2 k ∧ gy k = gy2 k) : metB f n gx gy f2 m hx hy = metB f n gx2 gy2 f2 m hx hy := by
  unfold metB
  rw [edB_congr hg (fun k _ => ⟨rfl, rfl⟩), edB_congr (fun k _ => ⟨rfl, rfl⟩) hg]
/-- the points of a part's candidate -/
def pX (q0 : Nat → Int32) : Nat → Int32 := dX q0 (fun _ => 0)
def pY (q0 c0 : Nat → Int32) (k : Int32) : Nat → Int32 := dY q0 c0 k (fun _ => 0)
def pF (q0 c0 : Nat → Int32) (k : Int32) : Nat → Int32 := frF (q0 1) (pX q0) (pY q0 c0 k) 3
theorem dX_p (q0 g : Nat → Int32) {k : Nat} (h : k < 4) : dX q0 g k = pX q0 k := by
  unfold pX dX
  rcases lt4 h with rfl | rfl | rfl | rfl <;> simp [upd]
theorem dY_p (q0 c0 g : Nat → Int32) (q : Int32) {k : Nat} (h : k < 4) : dY q0 c0 q g k = pY q0 c0 q k := by
  unfold pY dY
  rcases lt4 h with rfl | rfl | rfl | rfl <;> simp [upd]
theorem frF_p (q0 c0 g h : Nat → Int32) (q : Int32) : frF (q0 1) (dX q0 g) (dY q0 c0 q h) 3 = pF q0 c0 q := frF_congr (fun k hk => ⟨dX_p _ _ (by omega), dY_p _ _ _ _ (by omega)⟩)
def xDraw (E : Nat → Nat → Nat → Int32) (J : Nat → Nat → Nat) (i : Nat) (k : Int32) : Nat → Nat → Nat → Int32 := va_up E 9 (fun z => if z = 0 then frF (E 5 i 1) (dX (E 5 i) (E 9 1)) (dY (E 5 i) (E 4 (J 3 i)) k (E 9 2)) 3 else if z = 1 then dX (E 5 i) (E 9 1) else dY (E 5 i) (E 4 (J 3 i)) k (E 9 2))
/-- whether candidate k of part i meets bar b; the hull of part j -/
def xBq (E : Nat → Nat → Nat → Int32) (J : Nat → Nat → Nat) (i : Nat) (k : Int32) (b : Nat) : Bool := metB (pF (E 5 i) (E 4 (J 3 i)) k) 4 (pX (E 5 i)) (pY (E 5 i) (E 4 (J 3 i)) k) (E 1 b) (J 0 b) (E 2 b) (E 3 b)
def xHq (E : Nat → Nat → Nat → Int32) (J : Nat → Nat → Nat) (i : Nat) (k : Int32) (j : Nat) : Bool := pWin (E 5 j) (E 4 (J 3 j)) (E 5 i) (E 4 (J 3 i)) && metB (pF (E 5 i) (E 4 (J 3 i)) k) 4 (pX (E 5 i)) (pY (E 5 i) (E 4 (J 3 i)) k) (E 6 j) 4 (E 7 j) (E 8 j)
theorem xDraw_ne (E : Nat → Nat → Nat → Int32) (J : Nat → Nat → Nat) (i : Nat) (k : Int32) {q : Nat} (h : q ≠ 9) : xDraw E J i k q = E q := va_up_ne _ _ h
theorem xBm_d (E : Nat → Nat → Nat → Int32) (J : Nat → Nat → Nat) (i : Nat) (k : Int32) : xBm (xDraw E J i k) J = xBq E J i k := by
  funext b
  unfold xBm xBq
  rw [xDraw_ne E J i k (q := 1) (by decide), xDraw_ne E J i k (q := 2) (by decide), xDraw_ne E J i k (q := 3) (by decide)]
  unfold xDraw
  rw [va_up_self]
  show metB (frF _ _ _ 3) 4 (dX _ _) (dY _ _ _ _) _ _ _ _ = _
  rw [frF_p]
  exact metB_congr (fun q hq => ⟨dX_p _ _ hq, dY_p _ _ _ _ hq⟩)
theorem xHm_d (E : Nat → Nat → Nat → Int32) (J : Nat → Nat → Nat) (i : Nat) (k : Int32) : xHm (xDraw E J i k) J (E 5 i) (E 4 (J 3 i)) = xHq E J i k := by
  funext j
  unfold xHm xHq
  rw [xDraw_ne E J i k (q := 5) (by decide), xDraw_ne E J i k (q := 4) (by decide), xDraw_ne E J i k (q := 6) (by decide), xDraw_ne E J i k (q := 7) (by decide), xDraw_ne E J i k (q := 8) (by decide)]
  unfold xDraw
  rw [va_up_self]
  show (_ && metB (frF _ _ _ 3) 4 (dX _ _) (dY _ _ _ _) _ _ _ _) = _
  rw [frF_p, metB_congr (fun q hq => ⟨dX_p _ _ hq, dY_p _ _ _ _ hq⟩)]
/-- states that differ in the trial alone -/
def xEq (E E2 : Nat → Nat → Nat → Int32) : Prop := ∀ k, k ≠ 9 → E2 k = E k
theorem xBq_e {E E2 : Nat → Nat → Nat → Int32} (h : xEq E E2) (J : Nat → Nat → Nat) (i : Nat) (k : Int32) : xBq E2 J i k = xBq E J i k := by
  funext b
  unfold xBq
  rw [h 5 (by decide), h 4 (by decide), h 1 (by decide), h 2 (by decide), h 3 (by decide)]
theorem xHq_e {E E2 : Nat → Nat → Nat → Int32} (h : xEq E E2) (J : Nat → Nat → Nat) (i : Nat) (k : Int32) : xHq E2 J i k = xHq E J i k := by
  funext b
  unfold xHq
  rw [h 5 (by decide), h 4 (by decide), h 6 (by decide), h 7 (by decide), h 8 (by decide)]
theorem xEq_d {E E2 : Nat → Nat → Nat → Int32} (h : xEq E E2) (J : Nat → Nat → Nat) (i : Nat) (k : Int32) : xEq E (xDraw E2 J i k) := fun q hq => (xDraw_ne _ _ _ _ hq).trans (h q hq)
def xCand (w : Nat → Int32) (E : Nat → Nat → Nat → Int32) (J : Nat → Nat → Nat) (fp : Nat → Nat) (nb np : Nat) (x y k v : Int32) : Int32 := if xPart w E J x y = true then (if inB k 0 (pCc (E 4 (J 3 (xI fp x y))) - 1) = true then (if v.toInt = 0 then nI (min (cnt (xBq E J (xI fp x y) k) nb) 52) else if v.toInt = 1 then nI (min (cnt (xHq E J (xI fp x y) k) np) 80) else if v.toInt = 2 then pBad k else -9002) else -9002) else -9001
set_option maxHeartbeats 4000000 in
set_option maxRecDepth 100000 in
theorem c_X4_candidate (l : Launch) (D : va_G) (cs : Nat → ClassId) (A : Nat → Prop) (M : wM) (Z : Nat) (lab ad : Nat → Nat) (w : Nat → Int32) (E : Nat → Nat → Nat → Int32) (J : Nat → Nat → Nat) (nn nb nc np : Nat) (NA BA CA PA : Nat → Option Nat) (hC : CSx cs lab M Z ad w E J nn nb nc np NA BA CA PA) (hnc : w 10 = nI nc) (hc40 : nc ≤ 40) (fp : Nat → Nat) (hfp : ∀ c, c < nc → E 4 c 5 = nI (fp c) ∧ fp c + pcN E J c ≤ np) (hp80 : np ≤ 80) (nm nw : Nat) (hnm : w 8 = nI nm) (hnw : w 9 = nI nw) (hb9 : nb = nm + nw) (hb52 : nb ≤ 52) (hnp : w 11 = nI np) (p1 p2 k v : Int32) : Met l yX4_candidate (mw yX4_candidate cX4_candidate 6 (some .int)) { frames := 4, cells := 0, slots := 0, locals := 98 } (wrP D cs A M [.ref Z, .int p1, .int p2, .int k, .int v]) (va_Qi (fun r M' => ∃ E', CSx cs lab M' Z ad w E' J nn nb nc np NA BA CA PA ∧ xEq E E' ∧ r = xCand w E J fp nb np p1 p2 k v) (wrB D A) A) 0 0 A := by
  refine wr_met rfl (Nat.le_of_ble_eq_true rfl) ?_
  intro p e s m below meth c ls C hW hr hlk hini hl
  have C : kx D cs p m c cX4_candidate 6 s _ RX4 := C
  have hx := C.1.1
  have hb := C.1.2.1
  have hl : lv_has ls 6 [(0, .ref Z), (1, .int p1), (2, .int p2), (3, .int k), (4, .int v)] := hl
  refine lv_aload_n hx hb dX4_candidate_0 rfl (lv_at hl 0 rfl) ?_
  refine lv_iload_n hx hb dX4_candidate_1 rfl (lv_at hl 1 rfl) ?_
  refine lv_iload_n hx hb dX4_candidate_2 rfl (lv_at hl 2 rfl) ?_
  refine ro_goQ (ro_V (As := [.int p1, .int p2]) (rest := []) C hW.rd st_X4_119 (c_X4_findPart l D cs _ Z lab ad w E J nn nb nc np NA BA CA PA hC hnc (by omega) fp hfp (by omega) p1 p2) (CSx.z hC) rfl rfl ⟨rfl, rfl, Nat.le_of_ble_eq_true rfl, Nat.le_of_ble_eq_true rfl⟩ rfl hl.1 rfl (Nat.le_of_ble_eq_true rfl) dX4_candidate_3 ⟨Nat.le_of_ble_eq_true rfl, Nat.le_of_ble_eq_true rfl⟩) (fun r_3 h_3 => ?_)
  rcases r_3 with _ | b_3
  · have x_3 : xPart w E J p1 p2 = false := h_3.elim (fun q => q.2) (fun ⟨c, p, _, _, q1, q2, q3, _⟩ => absurd q3 (fpQ_some hC hfp q1 q2))
    refine lv_astoreN (lv' := [(5, .null), (0, .ref Z), (1, .int p1), (2, .int p2), (3, .int k), (4, .int v)]) hx hb dX4_candidate_6 hl (by decide) rfl (fun ls hl => ?_)
    refine lv_aloadN hx hb dX4_candidate_8 (lv_at hl 0 rfl) ?_
    refine lv_ifnonnullN hx hb dX4_candidate_10 ?_
    refine lv_sipush (v := (-9001)) hx hb dX4_candidate_13 (by decide) ?_
    exact wr_iret C hW hr hlk (⟨E, hC, fun _ _ => rfl, by simp [xCand, x_3]⟩) dX4_candidate_16
  · obtain ⟨j_3, p_3, rfl, rfl, hj_3, hp_3, hr_3, x_3⟩ : ∃ c p, p1 = nI c ∧ p2 = nI p ∧ c < nc ∧ p < pcN E J c ∧ some b_3 = PA (fp c + p) ∧ xPart w E J p1 p2 = true := h_3.elim (fun q => by cases q.1) id
    have hf_3 := (hfp j_3 hj_3).2
    have hq_3 := pcN_le E J j_3
    have hI_3 := xI_eq fp (j := j_3) (p := p_3) (by omega) (by omega)
    obtain ⟨d_3, cp_3, hp9_3, b1_3, b2_3, ga_3, gp_3, gl_3, gc_3, gh_3⟩ := CSx.part hC (fp j_3 + p_3) (by omega)
    have e_3 : b_3 = d_3 := Option.some.inj (hr_3.trans ga_3)
    subst e_3
    obtain ⟨fx_h3, fy_h3, h1_h3, h2_h3, h3_h3, h4_h3, h5_h3, h6_h3⟩ := gh_3
    refine lv_astore (lv' := [(5, .ref b_3), (0, .ref Z), (1, .int (nI j_3)), (2, .int (nI p_3)), (3, .int k), (4, .int v)]) hx hb dX4_candidate_6 hl (by decide) rfl (fun ls hl => ?_)
    refine lv_aload hx hb dX4_candidate_8 (lv_at hl 0 rfl) ?_
    refine lv_ifnonnull (tgt := 17) hx hb dX4_candidate_10 (by decide) ?_
    refine lv_iconst (v := 0) hx hb dX4_candidate_17 (by decide) ?_
    refine lv_iload_n hx hb dX4_candidate_18 rfl (lv_at hl 4 rfl) ?_
    refine lv_aload hx hb dX4_candidate_19 (lv_at hl 0 rfl) ?_
    refine ro_goI (ro_V (As := []) (rest := [.int k, .int 0]) C hW.rd st_X4_136 (c_X3_candidateCount l D cs _ b_3 cp_3 hp9_3 (E 5 (fp j_3 + p_3)) (E 4 (J 3 (fp j_3 + p_3))) b1_3 b2_3 gp_3 gc_3) gp_3 rfl rfl ⟨rfl, rfl, Nat.le_of_ble_eq_true rfl, Nat.le_of_ble_eq_true rfl⟩ rfl hl.1 rfl (Nat.le_of_ble_eq_true rfl) dX4_candidate_21 ⟨Nat.le_of_ble_eq_true rfl, Nat.le_of_ble_eq_true rfl⟩) (fun r_21 h_21 => ?_)
    refine lv_iconst (v := 1) hx hb dX4_candidate_24 (by decide) ?_
    refine lv_isub hx hb dX4_candidate_25 ?_
    refine ro_goI (ro_S (As := [.int 0, .int k, .int (r_21 - 1)]) (rest := []) C hW.rd st_X4_48 (c_X4_isFrom l D cs _ 0 k (r_21 - 1)) ⟨rfl, rfl, Nat.le_of_ble_eq_true rfl, Nat.le_of_ble_eq_true rfl⟩ rfl hl.1 rfl (Nat.le_of_ble_eq_true rfl) dX4_candidate_26 ⟨Nat.le_of_ble_eq_true rfl, Nat.le_of_ble_eq_true rfl⟩) (fun r_26 h_26 => ?_)
    refine lv_if_ne (tgt := 36) hx hb dX4_candidate_29 (by decide) (fun c_29 => ?_) (fun c_29 => ?_)
    · have c_29 : inB k 0 (r_21 - 1) = true := bz1 h_26 c_29
      have hPAi := hr_3.symm
      obtain ⟨fx_t0, fy_t0, h1_t0, h2_t0, h3_t0, h4_t0, h5_t0, h6_t0⟩ := CSx.tr hC
      refine lv_aload hx hb dX4_candidate_36 (lv_at hl 0 rfl) ?_
      refine lv_iload_n hx hb dX4_candidate_38 rfl (lv_at hl 4 rfl) ?_
      refine lv_aload_n hx hb dX4_candidate_39 rfl (lv_at hl 1 rfl) ?_
      refine gf_X4_41 C hW.rd (CSx.z hC) rfl dX4_candidate_40 ?_
      refine wr_goV hW (wr_V (As := [.int k, .ref (ad 5)]) (rest := []) C hW st_X4_146 (c_X3_draw l D cs A _ b_3 cp_3 hp9_3 (E 5 (fp j_3 + p_3)) (E 4 (J 3 (fp j_3 + p_3))) b1_3 b2_3 gp_3 gc_3 (ad 5) fx_t0 fy_t0 (E 9 0) (E 9 1) (E 9 2) h1_t0 h2_t0 h3_t0 (lab_ne h5_t0 h6_t0) k) gp_3 rfl rfl ⟨rfl, rfl, Nat.le_of_ble_eq_true rfl, Nat.le_of_ble_eq_true rfl⟩ rfl hl.1 rfl (Nat.le_of_ble_eq_true rfl) dX4_candidate_43 ⟨Nat.le_of_ble_eq_true rfl, Nat.le_of_ble_eq_true rfl⟩) (fun M_43 H locs h_43 hW => ?_)
      rw [h_43] at hW
      obtain ⟨M, E_1, eE_1, hC, hW⟩ : ∃ (M : wM) (E9 : Nat → Nat → Nat → Int32), E9 = xDraw E J (fp j_3 + p_3) k ∧ CSx cs lab M Z ad w E9 J nn nb nc np NA BA CA PA ∧ wd D A M s.heap H locs := ⟨_, _, rfl, CSx.drawT hC h1_t0 h2_t0 h3_t0 h4_t0 h5_t0 h6_t0 _ _ _, hW⟩
      obtain ⟨d_n, cp_n, hp9_n, b1_n, b2_n, ga_n, gp_n, gl_n, gc_n, gh_n⟩ := CSx.part hC (fp j_3 + p_3) (by omega)
      have e_n : b_3 = d_n := Option.some.inj (hPAi.symm.trans ga_n)
      subst e_n
      obtain ⟨fx_hn, fy_hn, h1_hn, h2_hn, h3_hn, h4_hn, h5_hn, h6_hn⟩ := gh_n
      refine lv_iload hx hb dX4_candidate_46 (lv_at hl 5 rfl) ?_
      rcases sw_cases v 2 with h_48 | ⟨k_48, hk_48, e_48⟩
      · refine sw_out (tgt := 99) C h_48 dX4_candidate_48 (by decide) ?_
        refine lv_sipush (v := (-9002)) hx hb dX4_candidate_99 (by decide) ?_
        exact wr_iret C hW hr hlk (⟨_, hC, by rw [eE_1]; exact fun q hq => xDraw_ne _ _ _ _ hq, by rw [xCand, if_pos x_3, hI_3, if_pos (by rw [← h_21]; exact c_29)]; rw [if_neg (by omega), if_neg (by omega), if_neg (by omega)]⟩) dX4_candidate_102
      · match k_48, hk_48, e_48 with
        | 0, _, e_48 =>
          refine sw_in (tgt := 76) C 0 e_48 (by decide) (by decide) dX4_candidate_48 rfl (by decide) ?_
          have hsw : v.toInt = 0 := by rw [e_48]; rfl
          refine lv_aload_n hx hb dX4_candidate_76 rfl (lv_at hl 1 rfl) ?_
          refine lv_bipush (v := 52) hx hb dX4_candidate_77 (by decide) ?_
          refine ro_goI (ro_V (As := [.int 52]) (rest := []) C hW.rd st_X4_150 (c_X4_barsMet l D cs _ Z lab ad w E_1 J nn nb nc np NA BA CA PA hC nm nw hnm hnw (by omega) (by omega) 52 (by omega)) (CSx.z hC) rfl rfl ⟨rfl, rfl, Nat.le_of_ble_eq_true rfl, Nat.le_of_ble_eq_true rfl⟩ rfl hl.1 rfl (Nat.le_of_ble_eq_true rfl) dX4_candidate_79 ⟨Nat.le_of_ble_eq_true rfl, Nat.le_of_ble_eq_true rfl⟩) (fun r_79 h_79 => ?_)
          exact wr_iret C hW hr hlk (⟨_, hC, by rw [eE_1]; exact fun q hq => xDraw_ne _ _ _ _ hq, by rw [xCand, if_pos x_3, hI_3, if_pos (by rw [← h_21]; exact c_29), if_pos hsw, ← xBm_d, ← eE_1]; exact h_79⟩) dX4_candidate_82
        | 1, _, e_48 =>
          refine sw_in (tgt := 83) C 1 e_48 (by decide) (by decide) dX4_candidate_48 rfl (by decide) ?_
          have hsw : v.toInt = 1 := by rw [e_48]; rfl
          refine lv_aload_n hx hb dX4_candidate_83 rfl (lv_at hl 1 rfl) ?_
          refine lv_aload hx hb dX4_candidate_84 (lv_at hl 0 rfl) ?_
          refine lv_bipush (v := 80) hx hb dX4_candidate_86 (by decide) ?_
          refine ro_goI (ro_V (As := [.ref b_3, .int 80]) (rest := []) C hW.rd st_X4_153 (c_X4_hullsMet l D cs _ Z lab ad w E_1 J nn nb nc np NA BA CA PA hC hnp (by omega) b_3 cp_n hp9_n (E_1 5 (fp j_3 + p_3)) (E_1 4 (J 3 (fp j_3 + p_3))) b1_n b2_n gp_n gc_n 80 (by omega)) (CSx.z hC) rfl rfl ⟨rfl, rfl, Nat.le_of_ble_eq_true rfl, Nat.le_of_ble_eq_true rfl⟩ rfl hl.1 rfl (Nat.le_of_ble_eq_true rfl) dX4_candidate_88 ⟨Nat.le_of_ble_eq_true rfl, Nat.le_of_ble_eq_true rfl⟩) (fun r_88 h_88 => ?_)
          exact wr_iret C hW hr hlk (⟨_, hC, by rw [eE_1]; exact fun q hq => xDraw_ne _ _ _ _ hq, by rw [xCand, if_pos x_3, hI_3, if_pos (by rw [← h_21]; exact c_29), if_neg (by omega), if_pos hsw, ← xHm_d, ← eE_1]; rw [h_88, eE_1, xDraw_ne _ _ _ _ (by decide), xDraw_ne _ _ _ _ (by decide)]⟩) dX4_candidate_91
        | 2, _, e_48 =>
          refine sw_in (tgt := 92) C 2 e_48 (by decide) (by decide) dX4_candidate_48 rfl (by decide) ?_
          have hsw : v.toInt = 2 := by rw [e_48]; rfl
          refine lv_aload hx hb dX4_candidate_92 (lv_at hl 0 rfl) ?_
          refine lv_iload_n hx hb dX4_candidate_94 rfl (lv_at hl 4 rfl) ?_
          refine ro_goI (ro_V (As := [.int k]) (rest := []) C hW.rd st_X4_126 (c_X3_badness l D cs _ b_3 k) gp_n rfl rfl ⟨rfl, rfl, Nat.le_of_ble_eq_true rfl, Nat.le_of_ble_eq_true rfl⟩ rfl hl.1 rfl (Nat.le_of_ble_eq_true rfl) dX4_candidate_95 ⟨Nat.le_of_ble_eq_true rfl, Nat.le_of_ble_eq_true rfl⟩) (fun r_95 h_95 => ?_)
          exact wr_iret C hW hr hlk (⟨_, hC, by rw [eE_1]; exact fun q hq => xDraw_ne _ _ _ _ hq, by rw [xCand, if_pos x_3, hI_3, if_pos (by rw [← h_21]; exact c_29), if_neg (by omega), if_neg (by omega), if_pos hsw]; exact h_95⟩) dX4_candidate_98
        | k + 3, hk_48, _ => exact absurd hk_48 (by omega)
    · have c_29 : ¬ (inB k 0 (r_21 - 1) = true) := bz0 h_26 c_29
      refine lv_sipush (v := (-9002)) hx hb dX4_candidate_32 (by decide) ?_
      exact wr_iret C hW hr hlk (⟨E, hC, fun _ _ => rfl, by rw [xCand, if_pos x_3, hI_3, if_neg (by rw [← h_21]; exact c_29)]⟩) dX4_candidate_35


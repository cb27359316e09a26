/-- a figure at b with its two rows -/
def sfg (cs : Nat → ClassId) (M : wM) (b xb yb n : Nat) (f gx gy : Nat → Int32) : wM := va_up (va_up (va_up M b (some (figC f xb yb))) xb (some (arC cs n gx))) yb (some (arC cs n gy))
theorem sfg_b {cs : Nat → ClassId} {M : wM} {b xb yb n : Nat} {f gx gy : Nat → Int32} (hbx : b ≠ xb) (hby : b ≠ yb) (hxy : xb ≠ yb) : sfg cs M b xb yb n f gx gy b = some (figC f xb yb) := by unfold sfg; rw [va_up_ne _ _ hby, va_up_ne _ _ hbx, va_up_self]
theorem sfg_x {cs : Nat → ClassId} {M : wM} {b xb yb n : Nat} {f gx gy : Nat → Int32} (hbx : b ≠ xb) (hby : b ≠ yb) (hxy : xb ≠ yb) : sfg cs M b xb yb n f gx gy xb = some (arC cs n gx) := by unfold sfg; rw [va_up_ne _ _ hxy, va_up_self]
theorem sfg_y {cs : Nat → ClassId} {M : wM} {b xb yb n : Nat} {f gx gy : Nat → Int32} (hbx : b ≠ xb) (hby : b ≠ yb) (hxy : xb ≠ yb) : sfg cs M b xb yb n f gx gy yb = some (arC cs n gy) := by unfold sfg; rw [va_up_self]
theorem sfg_o {cs : Nat → ClassId} {M : wM} {b xb yb n : Nat} {f gx gy : Nat → Int32} {q : Nat} (h1 : q ≠ b) (h2 : q ≠ xb) (h3 : q ≠ yb) : sfg cs M b xb yb n f gx gy q = M q := by unfold sfg; rw [va_up_ne _ _ h3, va_up_ne _ _ h2, va_up_ne _ _ h1]
theorem sfg_corner {cs : Nat → ClassId} {M : wM} {b xb yb n : Nat} {f gx gy : Nat → Int32} {gx2 gy2 : Nat → Int32} (hbx : b ≠ xb) (hby : b ≠ yb) (hxy : xb ≠ yb) : va_up (va_up (sfg cs M b xb yb n f gx gy) xb (some (arC cs n gx2))) yb (some (arC cs n gy2)) = sfg cs M b xb yb n f gx2 gy2 := by
  funext q
  unfold sfg
  by_cases h3 : q = yb
  · subst h3; rw [va_up_self, va_up_self]
  · by_cases h2 : q = xb
    · subst h2; rw [va_up_ne _ _ h3, va_up_self, va_up_ne _ _ h3, va_up_self]
    · rw [va_up_ne _ _ h3, va_up_ne _ _ h2, va_up_ne _ _ h3, va_up_ne _ _ h2, va_up_ne _ _ h3, va_up_ne _ _ h2]
theorem sfg_fig {cs : Nat → ClassId} {M : wM} {b xb yb n : Nat} {f gx gy : Nat → Int32} {f2 : Nat → Int32} (hbx : b ≠ xb) (hby : b ≠ yb) (hxy : xb ≠ yb) : va_up (sfg cs M b xb yb n f gx gy) b (some (figC f2 xb yb)) = sfg cs M b xb yb n f2 gx gy := by
  funext q
  by_cases h1 : q = b
  · subst h1; rw [va_up_self, sfg_b hbx hby hxy]
  · rw [va_up_ne _ _ h1]
    unfold sfg
    by_cases h3 : q = yb
    · subst h3; rw [va_up_self, va_up_self]
    · by_cases h2 : q = xb
      · subst h2; rw [va_up_ne _ _ h3, va_up_self, va_up_ne _ _ h3, va_up_self]
      · rw [va_up_ne _ _ h3, va_up_ne _ _ h2, va_up_ne _ _ h1, va_up_ne _ _ h3, va_up_ne _ _ h2, va_up_ne _ _ h1]
theorem sfg_self {cs : Nat → ClassId} {M : wM} {b xb yb n : Nat} {f gx gy : Nat → Int32} (h1 : M b = some (figC f xb yb)) (h2 : M xb = some (arC cs n gx)) (h3 : M yb = some (arC cs n gy)) : sfg cs M b xb yb n f gx gy = M := by
  unfold sfg
  rw [va_up_same h1, va_up_same h2, va_up_same h3]
theorem sfg_over {cs : Nat → ClassId} {M : wM} {b xb yb n : Nat} {f gx gy : Nat → Int32} {e : Option va_E} : sfg cs (va_up M b e) b xb yb n f gx gy = sfg cs M b xb yb n f gx gy := by
  unfold sfg
  rw [bx_uu]
/-- a new figure has come at r -/
def nF (cs : Nat → ClassId) (M M2 : wM) (r n : Nat) (f gx gy : Nat → Int32) : Prop := ∃ q1 q2, M r = none ∧ M q1 = none ∧ M q2 = none ∧ r ≠ q1 ∧ r ≠ q2 ∧ q1 ≠ q2 ∧ M2 = sfg cs M r q1 q2 n f gx gy
def f0 (ln : Int32) : Nat → Int32 := fun k => if k = 0 then ln else 0
theorem fig_made {M : wM} {a q1 q2 : Nat} {e1 e2 x y z r : va_E} (ha : M a = some r) (h1 : va_up M a (some e1) q1 = none) (h2 : va_up (va_up (va_up M a (some e1)) q1 (some x)) a (some e2) q2 = none) : M q1 = none ∧ M q2 = none ∧ a ≠ q1 ∧ a ≠ q2 ∧ q1 ≠ q2 ∧ va_up (va_up (va_up (va_up (va_up M a (some e1)) q1 (some x)) a (some e2)) q2 (some y)) a (some z) = va_up (va_up (va_up M a (some z)) q1 (some x)) q2 (some y) := by
  have n1 : q1 ≠ a := fun w => by rw [w, va_up_self] at h1; cases h1
  have n2 : q2 ≠ a := fun w => by rw [w, va_up_self] at h2; cases h2
  have n3 : q2 ≠ q1 := fun w => by rw [w, va_up_ne _ _ n1, va_up_self] at h2; cases h2
  rw [va_up_ne _ _ n1] at h1
  rw [va_up_ne _ _ n2, va_up_ne _ _ n3, va_up_ne _ _ n2] at h2
  refine ⟨h1, h2, fun w => n1 w.symm, fun w => n2 w.symm, fun w => n3 w.symm, ?_⟩
  funext q
  by_cases c1 : q = a
  · subst c1
    rw [va_up_self, va_up_ne _ _ (fun w => n2 w.symm), va_up_ne _ _ (fun w => n1 w.symm), va_up_self]
  · by_cases c2 : q = q2
    · subst c2; rw [va_up_ne _ _ c1, va_up_self, va_up_self]
    · by_cases c3 : q = q1
      · subst c3; rw [va_up_ne _ _ c1, va_up_ne _ _ c2, va_up_ne _ _ c1, va_up_self, va_up_ne _ _ c2, va_up_self]
      · rw [va_up_ne _ _ c1, va_up_ne _ _ c2, va_up_ne _ _ c1, va_up_ne _ _ c3, va_up_ne _ _ c1, va_up_ne _ _ c2, va_up_ne _ _ c3, va_up_ne _ _ c1]
set_option maxHeartbeats 4000000 in
set_option maxRecDepth 100000 in
theorem c_X1_init_4 (l : Launch) (D : va_G) (cs : Nat → ClassId) (A : Nat → Prop) (M : wM) (a : Nat) (ha : M a = some (.inr (1, [.int 0, .null, .null, .int 0, .int 0, .int 0, .int 0]))) (ln : Int32) : Met l yX1_init (mw yX1_init cX1_init 3 none) { frames := 1, cells := 2, slots := 8, locals := 20 } (wrP D cs A M [.ref a, .int ln, .int (nI 4)]) (va_Qv (fun M' => ∃ q1 q2, M q1 = none ∧ M q2 = none ∧ a ≠ q1 ∧ a ≠ q2 ∧ q1 ≠ q2 ∧ M' = sfg cs M a q1 q2 4 (f0 ln) (fun _ => 0) (fun _ => 0)) (wrB D A) A) 2 8 A := by
  refine wr_met rfl (Nat.le_of_ble_eq_true rfl) ?_
  intro p e s m below meth c ls C hW hr hlk hini hl
  have C : kx D cs p m c cX1_init 3 s _ RX1 := C
  have hx := C.1.1
  have hb := C.1.2.1
  have hl : lv_has ls 3 [(0, .ref a), (1, .int ln), (2, .int (nI 4))] := hl
  refine lv_aload_n hx hb dX1_init_0 rfl (lv_at hl 0 rfl) ?_
  refine W.objInit hx hb C.1.2.2.2.1 (C.1.2.2.2.2 _ wm_32) (C.1.2.2.2.2 _ wm_10) (C.1.2.2.2.2 _ wm_11) rfl (by rw [C.1.2.2.1]; exact hl.1) rfl dX1_init_1 (Nat.le_of_ble_eq_true rfl) (Nat.le_of_ble_eq_true rfl) ?_
  refine W.eq (g2 := F0 m 4 ls []) rfl ?_
  refine lv_aload_n hx hb dX1_init_4 rfl (lv_at hl 0 rfl) ?_
  refine lv_iload_n hx hb dX1_init_5 rfl (lv_at hl 1 rfl) ?_
  refine pf_X1_7 (fs2 := [.int ln, .null, .null, .int 0, .int 0, .int 0, .int 0]) C hW ha (Nat.le_of_ble_eq_true rfl) rfl dX1_init_6 (fun H locs hW => ?_)
  refine lv_aload_n hx hb dX1_init_9 rfl (lv_at hl 0 rfl) ?_
  refine lv_iload_n hx hb dX1_init_10 rfl (lv_at hl 2 rfl) ?_
  refine w_newa (atype := .int) (N' := 4) (a0 := (4, .inl (fun _ => 0))) (ty := .int) C hW 0 rfl (fun _ _ h => h) wm_12 rfl (fun _ => rfl) (by decide) (by rfl) (by decide) (by decide) (by decide) dX1_init_11 (fun q_11 H nq_11 hW => ?_)
  refine pf_X1_13 (fs2 := [.int ln, .ref q_11, .null, .int 0, .int 0, .int 0, .int 0]) C hW hini (up_keep (va_up_self _ _ _) nq_11) (Nat.le_of_ble_eq_true rfl) rfl dX1_init_13 (fun H locs hW => ?_)
  refine lv_aload_n hx hb dX1_init_16 rfl (lv_at hl 0 rfl) ?_
  refine lv_iload_n hx hb dX1_init_17 rfl (lv_at hl 2 rfl) ?_
  refine w_newa (atype := .int) (N' := 4) (a0 := (4, .inl (fun _ => 0))) (ty := .int) C hW 0 rfl (fun _ _ h => h) wm_12 rfl (fun _ => rfl) (by decide) (by rfl) (by decide) (by decide) (by decide) dX1_init_18 (fun q_18 H nq_18 hW => ?_)
  refine pf_X1_17 (fs2 := [.int ln, .ref q_11, .ref q_18, .int 0, .int 0, .int 0, .int 0]) C hW hini (up_keep (va_up_self _ _ _) nq_18) (Nat.le_of_ble_eq_true rfl) rfl dX1_init_20 (fun H locs hW => ?_)
  refine W.widen (k := 2) (n := 8) (by decide) (by decide) ?_
  exact wr_vret C hW hr hlk (by obtain ⟨k1, k2, k3, k4, k5, k6⟩ := fig_made ha nq_11 nq_18; exact ⟨_, _, k1, k2, k3, k4, k5, k6⟩) dX1_init_23

set_option maxHeartbeats 4000000 in
set_option maxRecDepth 100000 in
theorem c_X1_init_3 (l : Launch) (D : va_G) (cs : Nat → ClassId) (A : Nat → Prop) (M : wM) (a : Nat) (ha : M a = some (.inr (1, [.int 0, .null, .null, .int 0, .int 0, .int 0, .int 0]))) (ln : Int32) : Met l yX1_init (mw yX1_init cX1_init 3 none) { frames := 1, cells := 2, slots := 6, locals := 20 } (wrP D cs A M [.ref a, .int ln, .int (nI 3)]) (va_Qv (fun M' => ∃ q1 q2, M q1 = none ∧ M q2 = none ∧ a ≠ q1 ∧ a ≠ q2 ∧ q1 ≠ q2 ∧ M' = sfg cs M a q1 q2 3 (f0 ln) (fun _ => 0) (fun _ => 0)) (wrB D A) A) 2 6 A := by
  refine wr_met rfl (Nat.le_of_ble_eq_true rfl) ?_
  intro p e s m below meth c ls C hW hr hlk hini hl
  have C : kx D cs p m c cX1_init 3 s _ RX1 := C
  have hx := C.1.1
  have hb := C.1.2.1
  have hl : lv_has ls 3 [(0, .ref a), (1, .int ln), (2, .int (nI 3))] := hl
  refine lv_aload_n hx hb dX1_init_0 rfl (lv_at hl 0 rfl) ?_
  refine W.objInit hx hb C.1.2.2.2.1 (C.1.2.2.2.2 _ wm_32) (C.1.2.2.2.2 _ wm_10) (C.1.2.2.2.2 _ wm_11) rfl (by rw [C.1.2.2.1]; exact hl.1) rfl dX1_init_1 (Nat.le_of_ble_eq_true rfl) (Nat.le_of_ble_eq_true rfl) ?_
  refine W.eq (g2 := F0 m 4 ls []) rfl ?_
  refine lv_aload_n hx hb dX1_init_4 rfl (lv_at hl 0 rfl) ?_
  refine lv_iload_n hx hb dX1_init_5 rfl (lv_at hl 1 rfl) ?_
  refine pf_X1_7 (fs2 := [.int ln, .null, .null, .int 0, .int 0, .int 0, .int 0]) C hW ha (Nat.le_of_ble_eq_true rfl) rfl dX1_init_6 (fun H locs hW => ?_)
  refine lv_aload_n hx hb dX1_init_9 rfl (lv_at hl 0 rfl) ?_
  refine lv_iload_n hx hb dX1_init_10 rfl (lv_at hl 2 rfl) ?_
  refine w_newa (atype := .int) (N' := 3) (a0 := (3, .inl (fun _ => 0))) (ty := .int) C hW 0 rfl (fun _ _ h => h) wm_12 rfl (fun _ => rfl) (by decide) (by rfl) (by decide) (by decide) (by decide) dX1_init_11 (fun q_11 H nq_11 hW => ?_)
  refine pf_X1_13 (fs2 := [.int ln, .ref q_11, .null, .int 0, .int 0, .int 0, .int 0]) C hW hini (up_keep (va_up_self _ _ _) nq_11) (Nat.le_of_ble_eq_true rfl) rfl dX1_init_13 (fun H locs hW => ?_)
  refine lv_aload_n hx hb dX1_init_16 rfl (lv_at hl 0 rfl) ?_
  refine lv_iload_n hx hb dX1_init_17 rfl (lv_at hl 2 rfl) ?_
  refine w_newa (atype := .int) (N' := 3) (a0 := (3, .inl (fun _ => 0))) (ty := .int) C hW 0 rfl (fun _ _ h => h) wm_12 rfl (fun _ => rfl) (by decide) (by rfl) (by decide) (by decide) (by decide) dX1_init_18 (fun q_18 H nq_18 hW => ?_)
  refine pf_X1_17 (fs2 := [.int ln, .ref q_11, .ref q_18, .int 0, .int 0, .int 0, .int 0]) C hW hini (up_keep (va_up_self _ _ _) nq_18) (Nat.le_of_ble_eq_true rfl) rfl dX1_init_20 (fun H locs hW => ?_)
  refine W.widen (k := 2) (n := 6) (by decide) (by decide) ?_
  exact wr_vret C hW hr hlk (by obtain ⟨k1, k2, k3, k4, k5, k6⟩ := fig_made ha nq_11 nq_18; exact ⟨_, _, k1, k2, k3, k4, k5, k6⟩) dX1_init_23

set_option maxHeartbeats 4000000 in
set_option maxRecDepth 100000 in
theorem c_X1_hullOn (l : Launch) (D : va_G) (cs : Nat → ClassId) (A : Nat → Prop) (M : wM) (ln : Int32) : Met l yX1_hullOn (mw yX1_hullOn cX1_hullOn 1 (some (.object "CurveTies$Figure"))) { frames := 2, cells := 3, slots := 15, locals := 42 } (wrP D cs A M [.int ln]) (wrQr D A (fun r M' => nF cs M M' r 4 (f0 ln) (fun _ => 0) (fun _ => 0))) 3 15 A := by
  refine wr_met rfl (Nat.le_of_ble_eq_true rfl) ?_
  intro p e s m below meth c ls C hW hr hlk hini hl
  have C : kx D cs p m c cX1_hullOn 1 s _ RX1 := C
  have hx := C.1.1
  have hb := C.1.2.1
  have hl : lv_has ls 1 [(0, .int ln)] := hl
  refine w_new (ci := 1) (fs := [.int 0, .null, .null, .int 0, .int 0, .int 0, .int 0]) C hW rfl inX1 tyX1 tyX1_ok wm_27 wm_28 wm_25 (fun j hj => by rcases (show j = 0 ∨ j = 1 ∨ j = 2 ∨ j = 3 ∨ j = 4 ∨ j = 5 ∨ j = 6 by omega) with rfl | rfl | rfl | rfl | rfl | rfl | rfl <;> rfl) (by decide) (by decide) dX1_hullOn_0 (fun q_0 H nq_0 hW => ?_)
  refine lv_dup hx hb dX1_hullOn_3 rfl ?_
  refine lv_iload_n hx hb dX1_hullOn_4 rfl (lv_at hl 0 rfl) ?_
  refine lv_iconst (v := 4) hx hb dX1_hullOn_5 (by decide) ?_
  refine wr_goV hW (wr_I (As := [.int ln, .int 4]) (rest := [.ref q_0]) C hW st_X1_20 (c_X1_init_4 l D cs A _ q_0 (va_up_self _ _ _) ln) ⟨rfl, rfl, Nat.le_of_ble_eq_true rfl, Nat.le_of_ble_eq_true rfl⟩ rfl hl.1 rfl (Nat.le_of_ble_eq_true rfl) dX1_hullOn_6 ⟨Nat.le_of_ble_eq_true rfl, Nat.le_of_ble_eq_true rfl⟩) (fun M_6 H locs h_6 hW => ?_)
  obtain ⟨x1, x2, nx1, nx2, hbx, hby, hxy, h_6⟩ := h_6
  rw [h_6, sfg_over] at hW
  have nx1 : M x1 = none := by rw [va_up_ne _ _ (fun w => hbx w.symm)] at nx1; exact nx1
  have nx2 : M x2 = none := by rw [va_up_ne _ _ (fun w => hby w.symm)] at nx2; exact nx2
  refine W.widen (k := 3) (n := 15) (by decide) (by decide) ?_
  exact wr_aret C hW hr (Or.inl ⟨_, rfl⟩) hlk (⟨x1, x2, nq_0, nx1, nx2, hbx, hby, hxy, rfl⟩) dX1_hullOn_9

def rcX (x w : Int32) : Nat → Int32 := upd (upd (upd (upd (fun _ => 0) 0 x) 1 (x + w)) 2 (x + w)) 3 x
def rcY (y l : Int32) : Nat → Int32 := upd (upd (upd (upd (fun _ => 0) 0 y) 1 y) 2 (y + l)) 3 (y + l)
def trX (x z : Int32) : Nat → Int32 := upd (upd (upd (fun _ => 0) 0 x) 1 z) 2 z
def trY (y o : Int32) : Nat → Int32 := upd (upd (upd (fun _ => 0) 0 y) 1 (y - o)) 2 (y + o)
set_option maxHeartbeats 4000000 in
set_option maxRecDepth 100000 in
theorem c_X1_rectangle (l : Launch) (D : va_G) (cs : Nat → ClassId) (A : Nat → Prop) (M : wM) (ln x y w h0 : Int32) : Met l yX1_rectangle (mw yX1_rectangle cX1_rectangle 6 (some (.object "CurveTies$Figure"))) { frames := 2, cells := 3, slots := 15, locals := 42 } (wrP D cs A M [.int ln, .int x, .int y, .int w, .int h0]) (wrQr D A (fun r M' => nF cs M M' r 4 (frF ln (rcX x w) (rcY y h0) 3) (rcX x w) (rcY y h0))) 3 15 A := by
  refine wr_met rfl (Nat.le_of_ble_eq_true rfl) ?_
  intro p e s m below meth c ls C hW hr hlk hini hl
  have C : kx D cs p m c cX1_rectangle 6 s _ RX1 := C
  have hx := C.1.1
  have hb := C.1.2.1
  have hl : lv_has ls 6 [(0, .int ln), (1, .int x), (2, .int y), (3, .int w), (4, .int h0)] := hl
  refine w_new (ci := 1) (fs := [.int 0, .null, .null, .int 0, .int 0, .int 0, .int 0]) C hW rfl inX1 tyX1 tyX1_ok wm_27 wm_28 wm_25 (fun j hj => by rcases (show j = 0 ∨ j = 1 ∨ j = 2 ∨ j = 3 ∨ j = 4 ∨ j = 5 ∨ j = 6 by omega) with rfl | rfl | rfl | rfl | rfl | rfl | rfl <;> rfl) (by decide) (by decide) dX1_rectangle_0 (fun q_0 H nq_0 hW => ?_)
  refine lv_dup hx hb dX1_rectangle_3 rfl ?_
  refine lv_iload_n hx hb dX1_rectangle_4 rfl (lv_at hl 0 rfl) ?_
  refine lv_iconst (v := 4) hx hb dX1_rectangle_5 (by decide) ?_
  refine wr_goV hW (wr_I (As := [.int ln, .int 4]) (rest := [.ref q_0]) C hW st_X1_20 (c_X1_init_4 l D cs A _ q_0 (va_up_self _ _ _) ln) ⟨rfl, rfl, Nat.le_of_ble_eq_true rfl, Nat.le_of_ble_eq_true rfl⟩ rfl hl.1 rfl (Nat.le_of_ble_eq_true rfl) dX1_rectangle_6 ⟨Nat.le_of_ble_eq_true rfl, Nat.le_of_ble_eq_true rfl⟩) (fun M_6 H locs h_6 hW => ?_)
  obtain ⟨x1, x2, nx1, nx2, hbx, hby, hxy, h_6⟩ := h_6
  rw [h_6, sfg_over] at hW
  have nx1 : M x1 = none := by rw [va_up_ne _ _ (fun w => hbx w.symm)] at nx1; exact nx1
  have nx2 : M x2 = none := by rw [va_up_ne _ _ (fun w => hby w.symm)] at nx2; exact nx2
  refine lv_astore (lv' := [(5, .ref q_0), (0, .int ln), (1, .int x), (2, .int y), (3, .int w), (4, .int h0)]) hx hb dX1_rectangle_9 hl (by decide) rfl (fun ls hl => ?_)
  refine lv_aload hx hb dX1_rectangle_11 (lv_at hl 0 rfl) ?_
  refine lv_iconst (v := 0) hx hb dX1_rectangle_13 (by decide) ?_
  refine lv_iload_n hx hb dX1_rectangle_14 rfl (lv_at hl 2 rfl) ?_
  refine lv_iload_n hx hb dX1_rectangle_15 rfl (lv_at hl 3 rfl) ?_
  refine wr_goV hW (wr_V (As := [.int 0, .int x, .int y]) (rest := []) C hW st_X1_23 (c_X1_setCorner l D cs A _ q_0 x1 x2 4 (f0 ln) (fun _ => 0) (fun _ => 0) (sfg_b hbx hby hxy) (sfg_x hbx hby hxy) (sfg_y hbx hby hxy) (by decide) hxy 0 (by decide) x y) (sfg_b hbx hby hxy) rfl rfl ⟨rfl, rfl, Nat.le_of_ble_eq_true rfl, Nat.le_of_ble_eq_true rfl⟩ rfl hl.1 rfl (Nat.le_of_ble_eq_true rfl) dX1_rectangle_16 ⟨Nat.le_of_ble_eq_true rfl, Nat.le_of_ble_eq_true rfl⟩) (fun M_16 H locs h_16 hW => ?_)
  obtain ⟨g_1, eg_1⟩ : ∃ w9, w9 = upd (fun _ => 0) 0 x := ⟨_, rfl⟩
  obtain ⟨y_1, ey_1⟩ : ∃ w9, w9 = upd (fun _ => 0) 0 y := ⟨_, rfl⟩
  rw [h_16, sfg_corner hbx hby hxy, ← eg_1, ← ey_1] at hW
  refine lv_aload hx hb dX1_rectangle_19 (lv_at hl 0 rfl) ?_
  refine lv_iconst (v := 1) hx hb dX1_rectangle_21 (by decide) ?_
  refine lv_iload_n hx hb dX1_rectangle_22 rfl (lv_at hl 2 rfl) ?_
  refine lv_iload_n hx hb dX1_rectangle_23 rfl (lv_at hl 4 rfl) ?_
  refine lv_iadd hx hb dX1_rectangle_24 ?_
  refine lv_iload_n hx hb dX1_rectangle_25 rfl (lv_at hl 3 rfl) ?_
  refine wr_goV hW (wr_V (As := [.int 1, .int (x + w), .int y]) (rest := []) C hW st_X1_23 (c_X1_setCorner l D cs A _ q_0 x1 x2 4 (f0 ln) g_1 y_1 (sfg_b hbx hby hxy) (sfg_x hbx hby hxy) (sfg_y hbx hby hxy) (by decide) hxy 1 (by decide) (x + w) y) (sfg_b hbx hby hxy) rfl rfl ⟨rfl, rfl, Nat.le_of_ble_eq_true rfl, Nat.le_of_ble_eq_true rfl⟩ rfl hl.1 rfl (Nat.le_of_ble_eq_true rfl) dX1_rectangle_26 ⟨Nat.le_of_ble_eq_true rfl, Nat.le_of_ble_eq_true rfl⟩) (fun M_26 H locs h_26 hW => ?_)
  obtain ⟨g_2, eg_2⟩ : ∃ w9, w9 = upd g_1 1 (x + w) := ⟨_, rfl⟩
  obtain ⟨y_2, ey_2⟩ : ∃ w9, w9 = upd y_1 1 y := ⟨_, rfl⟩
  rw [h_26, sfg_corner hbx hby hxy, ← eg_2, ← ey_2] at hW
  refine lv_aload hx hb dX1_rectangle_29 (lv_at hl 0 rfl) ?_
  refine lv_iconst (v := 2) hx hb dX1_rectangle_31 (by decide) ?_
  refine lv_iload_n hx hb dX1_rectangle_32 rfl (lv_at hl 2 rfl) ?_
  refine lv_iload_n hx hb dX1_rectangle_33 rfl (lv_at hl 4 rfl) ?_
  refine lv_iadd hx hb dX1_rectangle_34 ?_
  refine lv_iload_n hx hb dX1_rectangle_35 rfl (lv_at hl 3 rfl) ?_
  refine lv_iload hx hb dX1_rectangle_36 (lv_at hl 5 rfl) ?_
  refine lv_iadd hx hb dX1_rectangle_38 ?_
  refine wr_goV hW (wr_V (As := [.int 2, .int (x + w), .int (y + h0)]) (rest := []) C hW st_X1_23 (c_X1_setCorner l D cs A _ q_0 x1 x2 4 (f0 ln) g_2 y_2 (sfg_b hbx hby hxy) (sfg_x hbx hby hxy) (sfg_y hbx hby hxy) (by decide) hxy 2 (by decide) (x + w) (y + h0)) (sfg_b hbx hby hxy) rfl rfl ⟨rfl, rfl, Nat.le_of_ble_eq_true rfl, Nat.le_of_ble_eq_true rfl⟩ rfl hl.1 rfl (Nat.le_of_ble_eq_true rfl) dX1_rectangle_39 ⟨Nat.le_of_ble_eq_true rfl, Nat.le_of_ble_eq_true rfl⟩) (fun M_39 H locs h_39 hW => ?_)
  obtain ⟨g_3, eg_3⟩ : ∃ w9, w9 = upd g_2 2 (x + w) := ⟨_, rfl⟩
  obtain ⟨y_3, ey_3⟩ : ∃ w9, w9 = upd y_2 2 (y + h0) := ⟨_, rfl⟩
  rw [h_39, sfg_corner hbx hby hxy, ← eg_3, ← ey_3] at hW
  refine lv_aload hx hb dX1_rectangle_42 (lv_at hl 0 rfl) ?_
  refine lv_iconst (v := 3) hx hb dX1_rectangle_44 (by decide) ?_
  refine lv_iload_n hx hb dX1_rectangle_45 rfl (lv_at hl 2 rfl) ?_
  refine lv_iload_n hx hb dX1_rectangle_46 rfl (lv_at hl 3 rfl) ?_
  refine lv_iload hx hb dX1_rectangle_47 (lv_at hl 5 rfl) ?_
  refine lv_iadd hx hb dX1_rectangle_49 ?_
  refine wr_goV hW (wr_V (As := [.int 3, .int x, .int (y + h0)]) (rest := []) C hW st_X1_23 (c_X1_setCorner l D cs A _ q_0 x1 x2 4 (f0 ln) g_3 y_3 (sfg_b hbx hby hxy) (sfg_x hbx hby hxy) (sfg_y hbx hby hxy) (by decide) hxy 3 (by decide) x (y + h0)) (sfg_b hbx hby hxy) rfl rfl ⟨rfl, rfl, Nat.le_of_ble_eq_true rfl, Nat.le_of_ble_eq_true rfl⟩ rfl hl.1 rfl (Nat.le_of_ble_eq_true rfl) dX1_rectangle_50 ⟨Nat.le_of_ble_eq_true rfl, Nat.le_of_ble_eq_true rfl⟩) (fun M_50 H locs h_50 hW => ?_)
  obtain ⟨g_4, eg_4⟩ : ∃ w9, w9 = upd g_3 3 x := ⟨_, rfl⟩
  obtain ⟨y_4, ey_4⟩ : ∃ w9, w9 = upd y_3 3 (y + h0) := ⟨_, rfl⟩
  rw [h_50, sfg_corner hbx hby hxy, ← eg_4, ← ey_4] at hW
  refine lv_aload hx hb dX1_rectangle_53 (lv_at hl 0 rfl) ?_
  refine wr_goV hW (wr_V (As := []) (rest := []) C hW st_X1_27 (c_X1_setFrame l D cs A _ q_0 x1 x2 4 (f0 ln) g_4 y_4 (sfg_b hbx hby hxy) (sfg_x hbx hby hxy) (sfg_y hbx hby hxy) (by decide) (by decide)) (sfg_b hbx hby hxy) rfl rfl ⟨rfl, rfl, Nat.le_of_ble_eq_true rfl, Nat.le_of_ble_eq_true rfl⟩ rfl hl.1 rfl (Nat.le_of_ble_eq_true rfl) dX1_rectangle_55 ⟨Nat.le_of_ble_eq_true rfl, Nat.le_of_ble_eq_true rfl⟩) (fun M_55 H locs h_55 hW => ?_)
  rw [h_55, sfg_fig hbx hby hxy] at hW
  refine lv_aload hx hb dX1_rectangle_58 (lv_at hl 0 rfl) ?_
  refine W.widen (k := 3) (n := 15) (by decide) (by decide) ?_
  exact wr_aret C hW hr (Or.inl ⟨_, rfl⟩) hlk (⟨x1, x2, nq_0, nx1, nx2, hbx, hby, hxy, by subst ey_4 eg_4 ey_3 eg_3 ey_2 eg_2 ey_1 eg_1; rfl⟩) dX1_rectangle_60

set_option maxHeartbeats 4000000 in
set_option maxRecDepth 100000 in
theorem c_X1_triangle (l : Launch) (D : va_G) (cs : Nat → ClassId) (A : Nat → Prop) (M : wM) (ln x z y h0 : Int32) : Met l yX1_triangle (mw yX1_triangle cX1_triangle 6 (some (.object "CurveTies$Figure"))) { frames := 2, cells := 3, slots := 13, locals := 42 } (wrP D cs A M [.int ln, .int x, .int z, .int y, .int h0]) (wrQr D A (fun r M' => nF cs M M' r 3 (frF ln (trX x z) (trY y h0) 2) (trX x z) (trY y h0))) 3 13 A := by
  refine wr_met rfl (Nat.le_of_ble_eq_true rfl) ?_
  intro p e s m below meth c ls C hW hr hlk hini hl
  have C : kx D cs p m c cX1_triangle 6 s _ RX1 := C
  have hx := C.1.1
  have hb := C.1.2.1
  have hl : lv_has ls 6 [(0, .int ln), (1, .int x), (2, .int z), (3, .int y), (4, .int h0)] := hl
  refine w_new (ci := 1) (fs := [.int 0, .null, .null, .int 0, .int 0, .int 0, .int 0]) C hW rfl inX1 tyX1 tyX1_ok wm_27 wm_28 wm_25 (fun j hj => by rcases (show j = 0 ∨ j = 1 ∨ j = 2 ∨ j = 3 ∨ j = 4 ∨ j = 5 ∨ j = 6 by omega) with rfl | rfl | rfl | rfl | rfl | rfl | rfl <;> rfl) (by decide) (by decide) dX1_triangle_0 (fun q_0 H nq_0 hW => ?_)
  refine lv_dup hx hb dX1_triangle_3 rfl ?_
  refine lv_iload_n hx hb dX1_triangle_4 rfl (lv_at hl 0 rfl) ?_
  refine lv_iconst (v := 3) hx hb dX1_triangle_5 (by decide) ?_
  refine wr_goV hW (wr_I (As := [.int ln, .int 3]) (rest := [.ref q_0]) C hW st_X1_20 (c_X1_init_3 l D cs A _ q_0 (va_up_self _ _ _) ln) ⟨rfl, rfl, Nat.le_of_ble_eq_true rfl, Nat.le_of_ble_eq_true rfl⟩ rfl hl.1 rfl (Nat.le_of_ble_eq_true rfl) dX1_triangle_6 ⟨Nat.le_of_ble_eq_true rfl, Nat.le_of_ble_eq_true rfl⟩) (fun M_6 H locs h_6 hW => ?_)
  obtain ⟨x1, x2, nx1, nx2, hbx, hby, hxy, h_6⟩ := h_6
  rw [h_6, sfg_over] at hW
  have nx1 : M x1 = none := by rw [va_up_ne _ _ (fun w => hbx w.symm)] at nx1; exact nx1
  have nx2 : M x2 = none := by rw [va_up_ne _ _ (fun w => hby w.symm)] at nx2; exact nx2
  refine lv_astore (lv' := [(5, .ref q_0), (0, .int ln), (1, .int x), (2, .int z), (3, .int y), (4, .int h0)]) hx hb dX1_triangle_9 hl (by decide) rfl (fun ls hl => ?_)
  refine lv_aload hx hb dX1_triangle_11 (lv_at hl 0 rfl) ?_
  refine lv_iconst (v := 0) hx hb dX1_triangle_13 (by decide) ?_
  refine lv_iload_n hx hb dX1_triangle_14 rfl (lv_at hl 2 rfl) ?_
  refine lv_iload_n hx hb dX1_triangle_15 rfl (lv_at hl 4 rfl) ?_
  refine wr_goV hW (wr_V (As := [.int 0, .int x, .int y]) (rest := []) C hW st_X1_23 (c_X1_setCorner l D cs A _ q_0 x1 x2 3 (f0 ln) (fun _ => 0) (fun _ => 0) (sfg_b hbx hby hxy) (sfg_x hbx hby hxy) (sfg_y hbx hby hxy) (by decide) hxy 0 (by decide) x y) (sfg_b hbx hby hxy) rfl rfl ⟨rfl, rfl, Nat.le_of_ble_eq_true rfl, Nat.le_of_ble_eq_true rfl⟩ rfl hl.1 rfl (Nat.le_of_ble_eq_true rfl) dX1_triangle_16 ⟨Nat.le_of_ble_eq_true rfl, Nat.le_of_ble_eq_true rfl⟩) (fun M_16 H locs h_16 hW => ?_)
  obtain ⟨g_1, eg_1⟩ : ∃ w9, w9 = upd (fun _ => 0) 0 x := ⟨_, rfl⟩
  obtain ⟨y_1, ey_1⟩ : ∃ w9, w9 = upd (fun _ => 0) 0 y := ⟨_, rfl⟩
  rw [h_16, sfg_corner hbx hby hxy, ← eg_1, ← ey_1] at hW
  refine lv_aload hx hb dX1_triangle_19 (lv_at hl 0 rfl) ?_
  refine lv_iconst (v := 1) hx hb dX1_triangle_21 (by decide) ?_
  refine lv_iload_n hx hb dX1_triangle_22 rfl (lv_at hl 3 rfl) ?_
  refine lv_iload_n hx hb dX1_triangle_23 rfl (lv_at hl 4 rfl) ?_
  refine lv_iload hx hb dX1_triangle_24 (lv_at hl 5 rfl) ?_
  refine lv_isub hx hb dX1_triangle_26 ?_
  refine wr_goV hW (wr_V (As := [.int 1, .int z, .int (y - h0)]) (rest := []) C hW st_X1_23 (c_X1_setCorner l D cs A _ q_0 x1 x2 3 (f0 ln) g_1 y_1 (sfg_b hbx hby hxy) (sfg_x hbx hby hxy) (sfg_y hbx hby hxy) (by decide) hxy 1 (by decide) z (y - h0)) (sfg_b hbx hby hxy) rfl rfl ⟨rfl, rfl, Nat.le_of_ble_eq_true rfl, Nat.le_of_ble_eq_true rfl⟩ rfl hl.1 rfl (Nat.le_of_ble_eq_true rfl) dX1_triangle_27 ⟨Nat.le_of_ble_eq_true rfl, Nat.le_of_ble_eq_true rfl⟩) (fun M_27 H locs h_27 hW => ?_)
  obtain ⟨g_2, eg_2⟩ : ∃ w9, w9 = upd g_1 1 z := ⟨_, rfl⟩
  obtain ⟨y_2, ey_2⟩ : ∃ w9, w9 = upd y_1 1 (y - h0) := ⟨_, rfl⟩
  rw [h_27, sfg_corner hbx hby hxy, ← eg_2, ← ey_2] at hW
  refine lv_aload hx hb dX1_triangle_30 (lv_at hl 0 rfl) ?_
  refine lv_iconst (v := 2) hx hb dX1_triangle_32 (by decide) ?_
  refine lv_iload_n hx hb dX1_triangle_33 rfl (lv_at hl 3 rfl) ?_
  refine lv_iload_n hx hb dX1_triangle_34 rfl (lv_at hl 4 rfl) ?_
  refine lv_iload hx hb dX1_triangle_35 (lv_at hl 5 rfl) ?_
  refine lv_iadd hx hb dX1_triangle_37 ?_
  refine wr_goV hW (wr_V (As := [.int 2, .int z, .int (y + h0)]) (rest := []) C hW st_X1_23 (c_X1_setCorner l D cs A _ q_0 x1 x2 3 (f0 ln) g_2 y_2 (sfg_b hbx hby hxy) (sfg_x hbx hby hxy) (sfg_y hbx hby hxy) (by decide) hxy 2 (by decide) z (y + h0)) (sfg_b hbx hby hxy) rfl rfl ⟨rfl, rfl, Nat.le_of_ble_eq_true rfl, Nat.le_of_ble_eq_true rfl⟩ rfl hl.1 rfl (Nat.le_of_ble_eq_true rfl) dX1_triangle_38 ⟨Nat.le_of_ble_eq_true rfl, Nat.le_of_ble_eq_true rfl⟩) (fun M_38 H locs h_38 hW => ?_)
  obtain ⟨g_3, eg_3⟩ : ∃ w9, w9 = upd g_2 2 z := ⟨_, rfl⟩
  obtain ⟨y_3, ey_3⟩ : ∃ w9, w9 = upd y_2 2 (y + h0) := ⟨_, rfl⟩
  rw [h_38, sfg_corner hbx hby hxy, ← eg_3, ← ey_3] at hW
  refine lv_aload hx hb dX1_triangle_41 (lv_at hl 0 rfl) ?_
  refine wr_goV hW (wr_V (As := []) (rest := []) C hW st_X1_27 (c_X1_setFrame l D cs A _ q_0 x1 x2 3 (f0 ln) g_3 y_3 (sfg_b hbx hby hxy) (sfg_x hbx hby hxy) (sfg_y hbx hby hxy) (by decide) (by decide)) (sfg_b hbx hby hxy) rfl rfl ⟨rfl, rfl, Nat.le_of_ble_eq_true rfl, Nat.le_of_ble_eq_true rfl⟩ rfl hl.1 rfl (Nat.le_of_ble_eq_true rfl) dX1_triangle_43 ⟨Nat.le_of_ble_eq_true rfl, Nat.le_of_ble_eq_true rfl⟩) (fun M_43 H locs h_43 hW => ?_)
  rw [h_43, sfg_fig hbx hby hxy] at hW
  refine lv_aload hx hb dX1_triangle_46 (lv_at hl 0 rfl) ?_
  refine W.widen (k := 3) (n := 13) (by decide) (by decide) ?_
  exact wr_aret C hW hr (Or.inl ⟨_, rfl⟩) hlk (⟨x1, x2, nq_0, nx1, nx2, hbx, hby, hxy, by subst ey_3 eg_3 ey_2 eg_2 ey_1 eg_1; rfl⟩) dX1_triangle_48

def dRise (q0 c0 : Nat → Int32) (k : Int32) : Int32 := (q0 6 + 4 * (k - k / 8 * 8)) * c0 4
def dShift (c0 : Nat → Int32) (k : Int32) : Int32 := 4 * (k / 8) * c0 4
def dY0 (q0 c0 : Nat → Int32) (k : Int32) : Int32 := q0 3 + dShift c0 k
def dY3 (q0 c0 : Nat → Int32) (k : Int32) : Int32 := q0 5 + dShift c0 k
def dX (q0 : Nat → Int32) (g : Nat → Int32) : Nat → Int32 := upd (upd (upd (upd g 0 (q0 2)) 1 (q0 2 + (q0 4 - q0 2) / 4)) 2 (q0 4 - (q0 4 - q0 2) / 4)) 3 (q0 4)
def dY (q0 c0 : Nat → Int32) (k : Int32) (g : Nat → Int32) : Nat → Int32 := upd (upd (upd (upd g 0 (dY0 q0 c0 k)) 1 (dY0 q0 c0 k + (dY3 q0 c0 k - dY0 q0 c0 k) / 4 + dRise q0 c0 k)) 2 (dY3 q0 c0 k + (dY0 q0 c0 k - dY3 q0 c0 k) / 4 + dRise q0 c0 k)) 3 (dY3 q0 c0 k)
set_option maxHeartbeats 4000000 in
set_option maxRecDepth 100000 in
theorem c_X3_draw (l : Launch) (D : va_G) (cs : Nat → ClassId) (A : Nat → Prop) (M : wM) (a ca ha : Nat) (q0 c0 : Nat → Int32) (na nb : Nat) (hp : M a = some (parC q0 ca ha)) (hc : M ca = some (curC c0 na nb)) (b xb yb : Nat) (f gx gy : Nat → Int32) (hbf : M b = some (figC f xb yb)) (hxb : M xb = some (arC cs 4 gx)) (hyb : M yb = some (arC cs 4 gy)) (hxy : xb ≠ yb) (k : Int32) : Met l yX3_draw (mw yX3_draw cX3_draw 8 none) { frames := 2, cells := 0, slots := 0, locals := 42 } (wrP D cs A M [.ref a, .int k, .ref b]) (va_Qv (fun M' => M' = sfg cs M b xb yb 4 (frF (q0 1) (dX q0 gx) (dY q0 c0 k gy) 3) (dX q0 gx) (dY q0 c0 k gy)) (wrB D A) A) 0 0 A := by
  refine wr_met rfl (Nat.le_of_ble_eq_true rfl) ?_
  intro p e s m below meth c ls C hW hr hlk hini hl
  have C : kx D cs p m c cX3_draw 8 s _ RX3 := C
  have hx := C.1.1
  have hb := C.1.2.1
  have hl : lv_has ls 8 [(0, .ref a), (1, .int k), (2, .ref b)] := hl
  have hbx := ne_fa hbf hxb
  have hby := ne_fa hbf hyb
  have hW : wd D A (sfg cs M b xb yb 4 f gx gy) s.heap s.heap [] := by rw [sfg_self hbf hxb hyb]; exact hW
  refine lv_aload_n hx hb dX3_draw_0 rfl (lv_at hl 0 rfl) ?_
  refine gf_X3_38 C hW.rd ((sfg_o (ne_pf hp hbf) (ne_pa hp hxb) (ne_pa hp hyb)).trans hp) rfl dX3_draw_1 ?_
  refine lv_iconst (v := 4) hx hb dX3_draw_4 (by decide) ?_
  refine lv_iload_n hx hb dX3_draw_5 rfl (lv_at hl 1 rfl) ?_
  refine lv_bipush (v := 8) hx hb dX3_draw_6 (by decide) ?_
  refine lv_irem hx hb dX3_draw_8 (by decide) ?_
  refine lv_imul hx hb dX3_draw_9 ?_
  refine lv_iadd hx hb dX3_draw_10 ?_
  refine lv_aload_n hx hb dX3_draw_11 rfl (lv_at hl 0 rfl) ?_
  refine gf_X3_13 C hW.rd ((sfg_o (ne_pf hp hbf) (ne_pa hp hxb) (ne_pa hp hyb)).trans hp) rfl dX3_draw_12 ?_
  refine gf_X3_60 C hW.rd ((sfg_o (ne_cf hc hbf) (ne_ca hc hxb) (ne_ca hc hyb)).trans hc) rfl dX3_draw_15 ?_
  refine lv_imul hx hb dX3_draw_18 ?_
  refine lv_topi (fun x_19 ex_19 => ?_)
  refine lv_istore_n (lv' := [(3, .int x_19), (0, .ref a), (1, .int k), (2, .ref b)]) hx hb dX3_draw_19 rfl hl (by decide) rfl (fun ls hl => ?_)
  refine lv_iconst (v := 4) hx hb dX3_draw_20 (by decide) ?_
  refine lv_iload_n hx hb dX3_draw_21 rfl (lv_at hl 2 rfl) ?_
  refine lv_bipush (v := 8) hx hb dX3_draw_22 (by decide) ?_
  refine lv_idiv hx hb dX3_draw_24 (by decide) ?_
  refine lv_imul hx hb dX3_draw_25 ?_
  refine lv_aload_n hx hb dX3_draw_26 rfl (lv_at hl 1 rfl) ?_
  refine gf_X3_13 C hW.rd ((sfg_o (ne_pf hp hbf) (ne_pa hp hxb) (ne_pa hp hyb)).trans hp) rfl dX3_draw_27 ?_
  refine gf_X3_60 C hW.rd ((sfg_o (ne_cf hc hbf) (ne_ca hc hxb) (ne_ca hc hyb)).trans hc) rfl dX3_draw_30 ?_
  refine lv_imul hx hb dX3_draw_33 ?_
  refine lv_topi (fun x_34 ex_34 => ?_)
  refine lv_istore (lv' := [(4, .int x_34), (3, .int x_19), (0, .ref a), (1, .int k), (2, .ref b)]) hx hb dX3_draw_34 hl (by decide) rfl (fun ls hl => ?_)
  refine lv_aload_n hx hb dX3_draw_36 rfl (lv_at hl 2 rfl) ?_
  refine gf_X3_23 C hW.rd ((sfg_o (ne_pf hp hbf) (ne_pa hp hxb) (ne_pa hp hyb)).trans hp) rfl dX3_draw_37 ?_
  refine lv_iload hx hb dX3_draw_40 (lv_at hl 0 rfl) ?_
  refine lv_iadd hx hb dX3_draw_42 ?_
  refine lv_istore (lv' := [(5, .int ((q0 3) + x_34)), (4, .int x_34), (3, .int x_19), (0, .ref a), (1, .int k), (2, .ref b)]) hx hb dX3_draw_43 hl (by decide) rfl (fun ls hl => ?_)
  refine lv_aload_n hx hb dX3_draw_45 rfl (lv_at hl 3 rfl) ?_
  refine gf_X3_29 C hW.rd ((sfg_o (ne_pf hp hbf) (ne_pa hp hxb) (ne_pa hp hyb)).trans hp) rfl dX3_draw_46 ?_
  refine lv_iload hx hb dX3_draw_49 (lv_at hl 1 rfl) ?_
  refine lv_iadd hx hb dX3_draw_51 ?_
  refine lv_istore (lv' := [(6, .int ((q0 5) + x_34)), (5, .int ((q0 3) + x_34)), (4, .int x_34), (3, .int x_19), (0, .ref a), (1, .int k), (2, .ref b)]) hx hb dX3_draw_52 hl (by decide) rfl (fun ls hl => ?_)
  refine lv_aload_n hx hb dX3_draw_54 rfl (lv_at hl 4 rfl) ?_
  refine gf_X3_26 C hW.rd ((sfg_o (ne_pf hp hbf) (ne_pa hp hxb) (ne_pa hp hyb)).trans hp) rfl dX3_draw_55 ?_
  refine lv_aload_n hx hb dX3_draw_58 rfl (lv_at hl 4 rfl) ?_
  refine gf_X3_20 C hW.rd ((sfg_o (ne_pf hp hbf) (ne_pa hp hxb) (ne_pa hp hyb)).trans hp) rfl dX3_draw_59 ?_
  refine lv_isub hx hb dX3_draw_62 ?_
  refine lv_iconst (v := 4) hx hb dX3_draw_63 (by decide) ?_
  refine lv_idiv hx hb dX3_draw_64 (by decide) ?_
  refine lv_topi (fun x_65 ex_65 => ?_)
  refine lv_istore (lv' := [(7, .int x_65), (6, .int ((q0 5) + x_34)), (5, .int ((q0 3) + x_34)), (4, .int x_34), (3, .int x_19), (0, .ref a), (1, .int k), (2, .ref b)]) hx hb dX3_draw_65 hl (by decide) rfl (fun ls hl => ?_)
  refine lv_aload_n hx hb dX3_draw_67 rfl (lv_at hl 7 rfl) ?_
  refine lv_aload_n hx hb dX3_draw_68 rfl (lv_at hl 5 rfl) ?_
  refine gf_X3_17 C hW.rd ((sfg_o (ne_pf hp hbf) (ne_pa hp hxb) (ne_pa hp hyb)).trans hp) rfl dX3_draw_69 ?_
  refine pf_X3_63 (fs2 := [.int ((va_up f 0 (q0 1)) 0), .ref xb, .ref yb, .int ((va_up f 0 (q0 1)) 3), .int ((va_up f 0 (q0 1)) 4), .int ((va_up f 0 (q0 1)) 5), .int ((va_up f 0 (q0 1)) 6)]) C hW (sfg_b hbx hby hxy) (Nat.le_of_ble_eq_true rfl) rfl dX3_draw_72 (fun H locs hW => ?_)
  have hW : wd D A (sfg cs M b xb yb 4 (va_up f 0 (q0 1)) gx gy) s.heap H locs := by rw [← sfg_fig (f := f) hbx hby hxy]; exact hW
  refine lv_aload_n hx hb dX3_draw_75 rfl (lv_at hl 7 rfl) ?_
  refine lv_iconst (v := 0) hx hb dX3_draw_76 (by decide) ?_
  refine lv_aload_n hx hb dX3_draw_77 rfl (lv_at hl 5 rfl) ?_
  refine gf_X3_20 C hW.rd ((sfg_o (ne_pf hp hbf) (ne_pa hp hxb) (ne_pa hp hyb)).trans hp) rfl dX3_draw_78 ?_
  refine lv_iload hx hb dX3_draw_81 (lv_at hl 2 rfl) ?_
  refine wr_goV hW (wr_V (As := [.int 0, .int (q0 2), .int ((q0 3) + x_34)]) (rest := []) C hW st_X3_64 (c_X1_setCorner l D cs A _ b xb yb 4 (va_up f 0 (q0 1)) gx gy (sfg_b hbx hby hxy) (sfg_x hbx hby hxy) (sfg_y hbx hby hxy) (by decide) hxy 0 (by decide) (q0 2) ((q0 3) + x_34)) (sfg_b hbx hby hxy) rfl rfl ⟨rfl, rfl, Nat.le_of_ble_eq_true rfl, Nat.le_of_ble_eq_true rfl⟩ rfl hl.1 rfl (Nat.le_of_ble_eq_true rfl) dX3_draw_83 ⟨Nat.le_of_ble_eq_true rfl, Nat.le_of_ble_eq_true rfl⟩) (fun M_83 H locs h_83 hW => ?_)
  obtain ⟨g_1, eg_1⟩ : ∃ w9, w9 = upd gx 0 (q0 2) := ⟨_, rfl⟩
  obtain ⟨y_1, ey_1⟩ : ∃ w9, w9 = upd gy 0 ((q0 3) + x_34) := ⟨_, rfl⟩
  rw [h_83, sfg_corner hbx hby hxy, ← eg_1, ← ey_1] at hW
  refine lv_aload_n hx hb dX3_draw_86 rfl (lv_at hl 7 rfl) ?_
  refine lv_iconst (v := 1) hx hb dX3_draw_87 (by decide) ?_
  refine lv_aload_n hx hb dX3_draw_88 rfl (lv_at hl 5 rfl) ?_
  refine gf_X3_20 C hW.rd ((sfg_o (ne_pf hp hbf) (ne_pa hp hxb) (ne_pa hp hyb)).trans hp) rfl dX3_draw_89 ?_
  refine lv_iload hx hb dX3_draw_92 (lv_at hl 0 rfl) ?_
  refine lv_iadd hx hb dX3_draw_94 ?_
  refine lv_iload hx hb dX3_draw_95 (lv_at hl 2 rfl) ?_
  refine lv_iload hx hb dX3_draw_97 (lv_at hl 1 rfl) ?_
  refine lv_iload hx hb dX3_draw_99 (lv_at hl 2 rfl) ?_
  refine lv_isub hx hb dX3_draw_101 ?_
  refine lv_iconst (v := 4) hx hb dX3_draw_102 (by decide) ?_
  refine lv_idiv hx hb dX3_draw_103 (by decide) ?_
  refine lv_iadd hx hb dX3_draw_104 ?_
  refine lv_iload_n hx hb dX3_draw_105 rfl (lv_at hl 4 rfl) ?_
  refine lv_iadd hx hb dX3_draw_106 ?_
  refine wr_goV hW (wr_V (As := [.int 1, .int ((q0 2) + x_65), .int ((((q0 3) + x_34) + ((((q0 5) + x_34) - ((q0 3) + x_34)) / 4)) + x_19)]) (rest := []) C hW st_X3_64 (c_X1_setCorner l D cs A _ b xb yb 4 (va_up f 0 (q0 1)) g_1 y_1 (sfg_b hbx hby hxy) (sfg_x hbx hby hxy) (sfg_y hbx hby hxy) (by decide) hxy 1 (by decide) ((q0 2) + x_65) ((((q0 3) + x_34) + ((((q0 5) + x_34) - ((q0 3) + x_34)) / 4)) + x_19)) (sfg_b hbx hby hxy) rfl rfl ⟨rfl, rfl, Nat.le_of_ble_eq_true rfl, Nat.le_of_ble_eq_true rfl⟩ rfl hl.1 rfl (Nat.le_of_ble_eq_true rfl) dX3_draw_107 ⟨Nat.le_of_ble_eq_true rfl, Nat.le_of_ble_eq_true rfl⟩) (fun M_107 H locs h_107 hW => ?_)
  obtain ⟨g_2, eg_2⟩ : ∃ w9, w9 = upd g_1 1 ((q0 2) + x_65) := ⟨_, rfl⟩
  obtain ⟨y_2, ey_2⟩ : ∃ w9, w9 = upd y_1 1 ((((q0 3) + x_34) + ((((q0 5) + x_34) - ((q0 3) + x_34)) / 4)) + x_19) := ⟨_, rfl⟩
  rw [h_107, sfg_corner hbx hby hxy, ← eg_2, ← ey_2] at hW
  refine lv_aload_n hx hb dX3_draw_110 rfl (lv_at hl 7 rfl) ?_
  refine lv_iconst (v := 2) hx hb dX3_draw_111 (by decide) ?_
  refine lv_aload_n hx hb dX3_draw_112 rfl (lv_at hl 5 rfl) ?_
  refine gf_X3_26 C hW.rd ((sfg_o (ne_pf hp hbf) (ne_pa hp hxb) (ne_pa hp hyb)).trans hp) rfl dX3_draw_113 ?_
  refine lv_iload hx hb dX3_draw_116 (lv_at hl 0 rfl) ?_
  refine lv_isub hx hb dX3_draw_118 ?_
  refine lv_iload hx hb dX3_draw_119 (lv_at hl 1 rfl) ?_
  refine lv_iload hx hb dX3_draw_121 (lv_at hl 2 rfl) ?_
  refine lv_iload hx hb dX3_draw_123 (lv_at hl 1 rfl) ?_
  refine lv_isub hx hb dX3_draw_125 ?_
  refine lv_iconst (v := 4) hx hb dX3_draw_126 (by decide) ?_
  refine lv_idiv hx hb dX3_draw_127 (by decide) ?_
  refine lv_iadd hx hb dX3_draw_128 ?_
  refine lv_iload_n hx hb dX3_draw_129 rfl (lv_at hl 4 rfl) ?_
  refine lv_iadd hx hb dX3_draw_130 ?_
  refine wr_goV hW (wr_V (As := [.int 2, .int ((q0 4) - x_65), .int ((((q0 5) + x_34) + ((((q0 3) + x_34) - ((q0 5) + x_34)) / 4)) + x_19)]) (rest := []) C hW st_X3_64 (c_X1_setCorner l D cs A _ b xb yb 4 (va_up f 0 (q0 1)) g_2 y_2 (sfg_b hbx hby hxy) (sfg_x hbx hby hxy) (sfg_y hbx hby hxy) (by decide) hxy 2 (by decide) ((q0 4) - x_65) ((((q0 5) + x_34) + ((((q0 3) + x_34) - ((q0 5) + x_34)) / 4)) + x_19)) (sfg_b hbx hby hxy) rfl rfl ⟨rfl, rfl, Nat.le_of_ble_eq_true rfl, Nat.le_of_ble_eq_true rfl⟩ rfl hl.1 rfl (Nat.le_of_ble_eq_true rfl) dX3_draw_131 ⟨Nat.le_of_ble_eq_true rfl, Nat.le_of_ble_eq_true rfl⟩) (fun M_131 H locs h_131 hW => ?_)
  obtain ⟨g_3, eg_3⟩ : ∃ w9, w9 = upd g_2 2 ((q0 4) - x_65) := ⟨_, rfl⟩
  obtain ⟨y_3, ey_3⟩ : ∃ w9, w9 = upd y_2 2 ((((q0 5) + x_34) + ((((q0 3) + x_34) - ((q0 5) + x_34)) / 4)) + x_19) := ⟨_, rfl⟩
  rw [h_131, sfg_corner hbx hby hxy, ← eg_3, ← ey_3] at hW
  refine lv_aload_n hx hb dX3_draw_134 rfl (lv_at hl 7 rfl) ?_
  refine lv_iconst (v := 3) hx hb dX3_draw_135 (by decide) ?_
  refine lv_aload_n hx hb dX3_draw_136 rfl (lv_at hl 5 rfl) ?_
  refine gf_X3_26 C hW.rd ((sfg_o (ne_pf hp hbf) (ne_pa hp hxb) (ne_pa hp hyb)).trans hp) rfl dX3_draw_137 ?_
  refine lv_iload hx hb dX3_draw_140 (lv_at hl 1 rfl) ?_
  refine wr_goV hW (wr_V (As := [.int 3, .int (q0 4), .int ((q0 5) + x_34)]) (rest := []) C hW st_X3_64 (c_X1_setCorner l D cs A _ b xb yb 4 (va_up f 0 (q0 1)) g_3 y_3 (sfg_b hbx hby hxy) (sfg_x hbx hby hxy) (sfg_y hbx hby hxy) (by decide) hxy 3 (by decide) (q0 4) ((q0 5) + x_34)) (sfg_b hbx hby hxy) rfl rfl ⟨rfl, rfl, Nat.le_of_ble_eq_true rfl, Nat.le_of_ble_eq_true rfl⟩ rfl hl.1 rfl (Nat.le_of_ble_eq_true rfl) dX3_draw_142 ⟨Nat.le_of_ble_eq_true rfl, Nat.le_of_ble_eq_true rfl⟩) (fun M_142 H locs h_142 hW => ?_)
  obtain ⟨g_4, eg_4⟩ : ∃ w9, w9 = upd g_3 3 (q0 4) := ⟨_, rfl⟩
  obtain ⟨y_4, ey_4⟩ : ∃ w9, w9 = upd y_3 3 ((q0 5) + x_34) := ⟨_, rfl⟩
  rw [h_142, sfg_corner hbx hby hxy, ← eg_4, ← ey_4] at hW
  refine lv_aload_n hx hb dX3_draw_145 rfl (lv_at hl 7 rfl) ?_
  refine wr_goV hW (wr_V (As := []) (rest := []) C hW st_X3_68 (c_X1_setFrame l D cs A _ b xb yb 4 (va_up f 0 (q0 1)) g_4 y_4 (sfg_b hbx hby hxy) (sfg_x hbx hby hxy) (sfg_y hbx hby hxy) (by decide) (by decide)) (sfg_b hbx hby hxy) rfl rfl ⟨rfl, rfl, Nat.le_of_ble_eq_true rfl, Nat.le_of_ble_eq_true rfl⟩ rfl hl.1 rfl (Nat.le_of_ble_eq_true rfl) dX3_draw_146 ⟨Nat.le_of_ble_eq_true rfl, Nat.le_of_ble_eq_true rfl⟩) (fun M_146 H locs h_146 hW => ?_)
  rw [h_146, sfg_fig hbx hby hxy] at hW
  exact wr_vret C hW hr hlk (by subst ey_4 eg_4 ey_3 eg_3 ey_2 eg_2 ey_1 eg_1; subst ex_65 ex_34 ex_19; rfl) dX3_draw_149


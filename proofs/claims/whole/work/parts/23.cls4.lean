def nt5 (a b c d e : Int32) : Nat → Int32 := fun k => if k = 0 then a else if k = 1 then b else if k = 2 then c else if k = 3 then d else e
def cu6 (a d e f : Int32) : Nat → Int32 := fun k => if k = 0 then a else if k = 3 then d else if k = 4 then e else f
def archI (fx tx : Int32) : Int32 := if 4 + (tx - fx) / 8 < 20 then 4 + (tx - fx) / 8 else 20
def pa9 (ln fx fy tx ty : Int32) : Nat → Int32 := fun k => if k = 1 then ln else if k = 2 then fx else if k = 3 then fy else if k = 4 then tx else if k = 5 then ty else if k = 6 then archI fx tx else if k = 8 then -1 else 0
theorem sfg_up {cs : Nat → ClassId} {M : wM} {b xb yb n a : Nat} {f gx gy : Nat → Int32} {e : Option va_E} (h1 : a ≠ b) (h2 : a ≠ xb) (h3 : a ≠ yb) : va_up (sfg cs M b xb yb n f gx gy) a e = sfg cs (va_up M a e) b xb yb n f gx gy := by
  funext q
  unfold sfg
  by_cases c1 : q = a
  · subst c1; rw [va_up_self, va_up_ne _ _ h3, va_up_ne _ _ h2, va_up_ne _ _ h1, va_up_self]
  · rw [va_up_ne _ _ c1]
    by_cases c4 : q = yb
    · subst c4; rw [va_up_self, va_up_self]
    · by_cases c3 : q = xb
      · subst c3; rw [va_up_ne _ _ c4, va_up_self, va_up_ne _ _ c4, va_up_self]
      · by_cases c2 : q = b
        · subst c2; rw [va_up_ne _ _ c4, va_up_ne _ _ c3, va_up_self, va_up_ne _ _ c4, va_up_ne _ _ c3, va_up_self]
        · rw [va_up_ne _ _ c4, va_up_ne _ _ c3, va_up_ne _ _ c2, va_up_ne _ _ c4, va_up_ne _ _ c3, va_up_ne _ _ c2, va_up_ne _ _ c1]
theorem ne_none {M : wM} {a q : Nat} {e : va_E} (h : M a = some e) (hq : M q = none) : a ≠ q := fun z => by
  rw [z, hq] at h
  cases h
set_option maxHeartbeats 4000000 in
set_option maxRecDepth 100000 in
theorem c_X2_init (l : Launch) (D : va_G) (cs : Nat → ClassId) (A : Nat → Prop) (M : wM) (a : Nat) (ha : M a = some (.inr (2, [.int 0, .int 0, .int 0, .int 0, .int 0]))) (p1 p2 p3 p4 p5 : Int32) (hup : p5 = 0 ∨ p5 = 1) : Met l yX2_init (mw yX2_init cX2_init 6 none) { frames := 1, cells := 0, slots := 0, locals := 20 } (wrP D cs A M [.ref a, .int p1, .int p2, .int p3, .int p4, .int p5]) (va_Qv (fun M' => M' = va_up M a (some (noteC (nt5 p1 p2 p3 p4 p5)))) (wrB D A) A) 0 0 A := by
  refine wr_met rfl (Nat.le_of_ble_eq_true rfl) ?_
  intro p e s m below meth c ls C hW hr hlk hini hl
  have C : kx D cs p m c cX2_init 6 s _ RX2 := C
  have hx := C.1.1
  have hb := C.1.2.1
  have hl : lv_has ls 6 [(0, .ref a), (1, .int p1), (2, .int p2), (3, .int p3), (4, .int p4), (5, .int p5)] := hl
  refine lv_aload_n hx hb dX2_init_0 rfl (lv_at hl 0 rfl) ?_
  refine W.objInit hx hb C.1.2.2.2.1 (C.1.2.2.2.2 _ wm_111) (C.1.2.2.2.2 _ wm_10) (C.1.2.2.2.2 _ wm_11) rfl (by rw [C.1.2.2.1]; exact hl.1) rfl dX2_init_1 (Nat.le_of_ble_eq_true rfl) (Nat.le_of_ble_eq_true rfl) ?_
  refine W.eq (g2 := F0 m 4 ls []) rfl ?_
  refine lv_aload_n hx hb dX2_init_4 rfl (lv_at hl 0 rfl) ?_
  refine lv_iload_n hx hb dX2_init_5 rfl (lv_at hl 1 rfl) ?_
  refine pf_X2_9 (fs2 := [.int p1, .int 0, .int 0, .int 0, .int 0]) C hW hini ha (Nat.le_of_ble_eq_true rfl) rfl dX2_init_6 (fun H locs hW => ?_)
  refine lv_aload_n hx hb dX2_init_9 rfl (lv_at hl 0 rfl) ?_
  refine lv_iload_n hx hb dX2_init_10 rfl (lv_at hl 2 rfl) ?_
  refine pf_X2_15 (fs2 := [.int p1, .int p2, .int 0, .int 0, .int 0]) C hW hini (va_up_self _ _ _) (Nat.le_of_ble_eq_true rfl) rfl dX2_init_11 (fun H locs hW => ?_)
  rw [bx_uu] at hW
  refine lv_aload_n hx hb dX2_init_14 rfl (lv_at hl 0 rfl) ?_
  refine lv_iload_n hx hb dX2_init_15 rfl (lv_at hl 3 rfl) ?_
  refine pf_X2_18 (fs2 := [.int p1, .int p2, .int p3, .int 0, .int 0]) C hW hini (va_up_self _ _ _) (Nat.le_of_ble_eq_true rfl) rfl dX2_init_16 (fun H locs hW => ?_)
  rw [bx_uu] at hW
  refine lv_aload_n hx hb dX2_init_19 rfl (lv_at hl 0 rfl) ?_
  refine lv_iload hx hb dX2_init_20 (lv_at hl 4 rfl) ?_
  refine pf_X2_21 (fs2 := [.int p1, .int p2, .int p3, .int p4, .int 0]) C hW hini (va_up_self _ _ _) (Nat.le_of_ble_eq_true rfl) rfl dX2_init_22 (fun H locs hW => ?_)
  rw [bx_uu] at hW
  refine lv_aload_n hx hb dX2_init_25 rfl (lv_at hl 0 rfl) ?_
  refine lv_iload hx hb dX2_init_26 (lv_at hl 5 rfl) ?_
  refine pf_X2_24 (fs2 := [.int p1, .int p2, .int p3, .int p4, .int p5]) C hW hini (va_up_self _ _ _) hup (Nat.le_of_ble_eq_true rfl) rfl dX2_init_28 (fun H locs hW => ?_)
  rw [bx_uu] at hW
  exact wr_vret C hW hr hlk rfl dX2_init_31

set_option maxHeartbeats 4000000 in
set_option maxRecDepth 100000 in
theorem c_X0_init (l : Launch) (D : va_G) (cs : Nat → ClassId) (A : Nat → Prop) (M : wM) (a na nb : Nat) (ha : M a = some (.inr (0, [.int 0, .null, .null, .int 0, .int 0, .int 0]))) (p1 p4 p5 p6 : Int32) (hup : p4 = 0 ∨ p4 = 1) : Met l yX0_init (mw yX0_init cX0_init 7 none) { frames := 1, cells := 0, slots := 0, locals := 20 } (wrP D cs A M [.ref a, .int p1, .ref na, .ref nb, .int p4, .int p5, .int p6]) (va_Qv (fun M' => M' = va_up M a (some (curC (cu6 p1 p4 p5 p6) na nb))) (wrB D A) A) 0 0 A := by
  refine wr_met rfl (Nat.le_of_ble_eq_true rfl) ?_
  intro p e s m below meth c ls C hW hr hlk hini hl
  have C : kx D cs p m c cX0_init 7 s _ RX0 := C
  have hx := C.1.1
  have hb := C.1.2.1
  have hl : lv_has ls 7 [(0, .ref a), (1, .int p1), (2, .ref na), (3, .ref nb), (4, .int p4), (5, .int p5), (6, .int p6)] := hl
  refine lv_aload_n hx hb dX0_init_0 rfl (lv_at hl 0 rfl) ?_
  refine W.objInit hx hb C.1.2.2.2.1 (C.1.2.2.2.2 _ wm_219) (C.1.2.2.2.2 _ wm_10) (C.1.2.2.2.2 _ wm_11) rfl (by rw [C.1.2.2.1]; exact hl.1) rfl dX0_init_1 (Nat.le_of_ble_eq_true rfl) (Nat.le_of_ble_eq_true rfl) ?_
  refine W.eq (g2 := F0 m 4 ls []) rfl ?_
  refine lv_aload_n hx hb dX0_init_4 rfl (lv_at hl 0 rfl) ?_
  refine lv_iload_n hx hb dX0_init_5 rfl (lv_at hl 1 rfl) ?_
  refine pf_X0_7 (fs2 := [.int p1, .null, .null, .int 0, .int 0, .int 0]) C hW hini ha (Nat.le_of_ble_eq_true rfl) rfl dX0_init_6 (fun H locs hW => ?_)
  refine lv_aload_n hx hb dX0_init_9 rfl (lv_at hl 0 rfl) ?_
  refine lv_aload_n hx hb dX0_init_10 rfl (lv_at hl 2 rfl) ?_
  refine pf_X0_13 (fs2 := [.int p1, .ref na, .null, .int 0, .int 0, .int 0]) C hW hini (va_up_self _ _ _) (Nat.le_of_ble_eq_true rfl) rfl dX0_init_11 (fun H locs hW => ?_)
  rw [bx_uu] at hW
  refine lv_aload_n hx hb dX0_init_14 rfl (lv_at hl 0 rfl) ?_
  refine lv_aload_n hx hb dX0_init_15 rfl (lv_at hl 3 rfl) ?_
  refine pf_X0_17 (fs2 := [.int p1, .ref na, .ref nb, .int 0, .int 0, .int 0]) C hW hini (va_up_self _ _ _) (Nat.le_of_ble_eq_true rfl) rfl dX0_init_16 (fun H locs hW => ?_)
  rw [bx_uu] at hW
  refine lv_aload_n hx hb dX0_init_19 rfl (lv_at hl 0 rfl) ?_
  refine lv_iload hx hb dX0_init_20 (lv_at hl 4 rfl) ?_
  refine pf_X0_20 (fs2 := [.int p1, .ref na, .ref nb, .int p4, .int 0, .int 0]) C hW hini (va_up_self _ _ _) hup (Nat.le_of_ble_eq_true rfl) rfl dX0_init_22 (fun H locs hW => ?_)
  rw [bx_uu] at hW
  refine lv_aload_n hx hb dX0_init_25 rfl (lv_at hl 0 rfl) ?_
  refine lv_iload hx hb dX0_init_26 (lv_at hl 5 rfl) ?_
  refine pf_X0_24 (fs2 := [.int p1, .ref na, .ref nb, .int p4, .int p5, .int 0]) C hW hini (va_up_self _ _ _) (Nat.le_of_ble_eq_true rfl) rfl dX0_init_28 (fun H locs hW => ?_)
  rw [bx_uu] at hW
  refine lv_aload_n hx hb dX0_init_31 rfl (lv_at hl 0 rfl) ?_
  refine lv_iload hx hb dX0_init_32 (lv_at hl 6 rfl) ?_
  refine pf_X0_27 (fs2 := [.int p1, .ref na, .ref nb, .int p4, .int p5, .int p6]) C hW hini (va_up_self _ _ _) (Nat.le_of_ble_eq_true rfl) rfl dX0_init_34 (fun H locs hW => ?_)
  rw [bx_uu] at hW
  exact wr_vret C hW hr hlk rfl dX0_init_37

set_option maxHeartbeats 4000000 in
set_option maxRecDepth 100000 in
theorem c_X3_init (l : Launch) (D : va_G) (cs : Nat → ClassId) (A : Nat → Prop) (M : wM) (a ca : Nat) (ha : M a = some (.inr (3, [.null, .int 0, .int 0, .int 0, .int 0, .int 0, .int 0, .null, .int 0, .int 0]))) (ln fx fy tx ty : Int32) : Met l yX3_init (mw yX3_init cX3_init 7 none) { frames := 3, cells := 3, slots := 15, locals := 62 } (wrP D cs A M [.ref a, .ref ca, .int ln, .int fx, .int fy, .int tx, .int ty]) (va_Qv (fun M' => ∃ h q1 q2, M h = none ∧ M q1 = none ∧ M q2 = none ∧ h ≠ q1 ∧ h ≠ q2 ∧ q1 ≠ q2 ∧ a ≠ h ∧ a ≠ q1 ∧ a ≠ q2 ∧ M' = sfg cs (va_up M a (some (parC (pa9 ln fx fy tx ty) ca h))) h q1 q2 4 (f0 ln) (fun _ => 0) (fun _ => 0)) (wrB D A) A) 3 15 A := by
  refine wr_met rfl (Nat.le_of_ble_eq_true rfl) ?_
  intro p e s m below meth c ls C hW hr hlk hini hl
  have C : kx D cs p m c cX3_init 7 s _ RX3 := C
  have hx := C.1.1
  have hb := C.1.2.1
  have hl : lv_has ls 7 [(0, .ref a), (1, .ref ca), (2, .int ln), (3, .int fx), (4, .int fy), (5, .int tx), (6, .int ty)] := hl
  refine lv_aload_n hx hb dX3_init_0 rfl (lv_at hl 0 rfl) ?_
  refine W.objInit hx hb C.1.2.2.2.1 (C.1.2.2.2.2 _ wm_257) (C.1.2.2.2.2 _ wm_10) (C.1.2.2.2.2 _ wm_11) rfl (by rw [C.1.2.2.1]; exact hl.1) rfl dX3_init_1 (Nat.le_of_ble_eq_true rfl) (Nat.le_of_ble_eq_true rfl) ?_
  refine W.eq (g2 := F0 m 4 ls []) rfl ?_
  refine lv_aload_n hx hb dX3_init_4 rfl (lv_at hl 0 rfl) ?_
  refine lv_iconst (v := (-1)) hx hb dX3_init_5 (by decide) ?_
  refine pf_X3_9 (fs2 := [.null, .int 0, .int 0, .int 0, .int 0, .int 0, .int 0, .null, .int (-1), .int 0]) C hW ha (Nat.le_of_ble_eq_true rfl) rfl dX3_init_6 (fun H locs hW => ?_)
  refine lv_aload_n hx hb dX3_init_9 rfl (lv_at hl 0 rfl) ?_
  refine lv_aload_n hx hb dX3_init_10 rfl (lv_at hl 1 rfl) ?_
  refine pf_X3_13 (fs2 := [.ref ca, .int 0, .int 0, .int 0, .int 0, .int 0, .int 0, .null, .int (-1), .int 0]) C hW hini (va_up_self _ _ _) (Nat.le_of_ble_eq_true rfl) rfl dX3_init_11 (fun H locs hW => ?_)
  rw [bx_uu] at hW
  refine lv_aload_n hx hb dX3_init_14 rfl (lv_at hl 0 rfl) ?_
  refine lv_iload_n hx hb dX3_init_15 rfl (lv_at hl 2 rfl) ?_
  refine pf_X3_17 (fs2 := [.ref ca, .int ln, .int 0, .int 0, .int 0, .int 0, .int 0, .null, .int (-1), .int 0]) C hW hini (va_up_self _ _ _) (Nat.le_of_ble_eq_true rfl) rfl dX3_init_16 (fun H locs hW => ?_)
  rw [bx_uu] at hW
  refine lv_aload_n hx hb dX3_init_19 rfl (lv_at hl 0 rfl) ?_
  refine lv_iload_n hx hb dX3_init_20 rfl (lv_at hl 3 rfl) ?_
  refine pf_X3_20 (fs2 := [.ref ca, .int ln, .int fx, .int 0, .int 0, .int 0, .int 0, .null, .int (-1), .int 0]) C hW hini (va_up_self _ _ _) (Nat.le_of_ble_eq_true rfl) rfl dX3_init_21 (fun H locs hW => ?_)
  rw [bx_uu] at hW
  refine lv_aload_n hx hb dX3_init_24 rfl (lv_at hl 0 rfl) ?_
  refine lv_iload hx hb dX3_init_25 (lv_at hl 4 rfl) ?_
  refine pf_X3_23 (fs2 := [.ref ca, .int ln, .int fx, .int fy, .int 0, .int 0, .int 0, .null, .int (-1), .int 0]) C hW hini (va_up_self _ _ _) (Nat.le_of_ble_eq_true rfl) rfl dX3_init_27 (fun H locs hW => ?_)
  rw [bx_uu] at hW
  refine lv_aload_n hx hb dX3_init_30 rfl (lv_at hl 0 rfl) ?_
  refine lv_iload hx hb dX3_init_31 (lv_at hl 5 rfl) ?_
  refine pf_X3_26 (fs2 := [.ref ca, .int ln, .int fx, .int fy, .int tx, .int 0, .int 0, .null, .int (-1), .int 0]) C hW hini (va_up_self _ _ _) (Nat.le_of_ble_eq_true rfl) rfl dX3_init_33 (fun H locs hW => ?_)
  rw [bx_uu] at hW
  refine lv_aload_n hx hb dX3_init_36 rfl (lv_at hl 0 rfl) ?_
  refine lv_iload hx hb dX3_init_37 (lv_at hl 6 rfl) ?_
  refine pf_X3_29 (fs2 := [.ref ca, .int ln, .int fx, .int fy, .int tx, .int ty, .int 0, .null, .int (-1), .int 0]) C hW hini (va_up_self _ _ _) (Nat.le_of_ble_eq_true rfl) rfl dX3_init_39 (fun H locs hW => ?_)
  rw [bx_uu] at hW
  refine lv_aload_n hx hb dX3_init_42 rfl (lv_at hl 0 rfl) ?_
  refine lv_bipush (v := 20) hx hb dX3_init_43 (by decide) ?_
  refine lv_iconst (v := 4) hx hb dX3_init_45 (by decide) ?_
  refine lv_iload hx hb dX3_init_46 (lv_at hl 5 rfl) ?_
  refine lv_iload_n hx hb dX3_init_48 rfl (lv_at hl 3 rfl) ?_
  refine lv_isub hx hb dX3_init_49 ?_
  refine lv_bipush (v := 8) hx hb dX3_init_50 (by decide) ?_
  refine lv_idiv hx hb dX3_init_52 (by decide) ?_
  refine lv_iadd hx hb dX3_init_53 ?_
  refine va_mmin hx hb (by rw [C.1.2.2.1]; exact hl.1.symm) C.1.2.2.2.1 (C.1.2.2.2.2 _ wm_265) (C.1.2.2.2.2 _ wm_150) (C.1.2.2.2.2 _ wm_151) (C.1.2.2.2.2 _ wm_152) (Nat.le_of_ble_eq_true rfl) (Nat.le_of_ble_eq_true rfl) (by decide) (by decide) dX3_init_54 ?_
  refine pf_X3_38 (fs2 := [.ref ca, .int ln, .int fx, .int fy, .int tx, .int ty, .int (if (4 + ((tx - fx) / 8)) < 20 then (4 + ((tx - fx) / 8)) else 20), .null, .int (-1), .int 0]) C hW hini (va_up_self _ _ _) (Nat.le_of_ble_eq_true rfl) rfl dX3_init_57 (fun H locs hW => ?_)
  rw [bx_uu] at hW
  refine lv_aload_n hx hb dX3_init_60 rfl (lv_at hl 0 rfl) ?_
  refine lv_iload_n hx hb dX3_init_61 rfl (lv_at hl 2 rfl) ?_
  refine wr_goR hW (wr_S (As := [.int ln]) (rest := [.ref a]) C hW st_X3_41 (c_X1_hullOn l D cs A _ ln) ⟨rfl, rfl, Nat.le_of_ble_eq_true rfl, Nat.le_of_ble_eq_true rfl⟩ rfl hl.1 rfl (Nat.le_of_ble_eq_true rfl) dX3_init_62 ⟨Nat.le_of_ble_eq_true rfl, Nat.le_of_ble_eq_true rfl⟩) (fun r_62 M_62 H locs h_62 hW => ?_)
  obtain ⟨q1, q2, k0, k1, k2, k3, k4, k5, h_62⟩ := h_62
  rw [h_62] at hW
  have n1 := ne_none (va_up_self _ _ _) k0
  have n2 := ne_none (va_up_self _ _ _) k1
  have n3 := ne_none (va_up_self _ _ _) k2
  refine pf_X3_47 (fs2 := [.ref ca, .int ln, .int fx, .int fy, .int tx, .int ty, .int (if (4 + ((tx - fx) / 8)) < 20 then (4 + ((tx - fx) / 8)) else 20), .ref r_62, .int (-1), .int 0]) C hW hini ((sfg_o n1 n2 n3).trans (va_up_self _ _ _)) (Nat.le_of_ble_eq_true rfl) rfl dX3_init_65 (fun H locs hW => ?_)
  refine W.widen (k := 3) (n := 15) (by decide) (by decide) ?_
  exact wr_vret C hW hr hlk (⟨_, q1, q2, by rw [va_up_ne _ _ n1.symm] at k0; exact k0, by rw [va_up_ne _ _ n2.symm] at k1; exact k1, by rw [va_up_ne _ _ n3.symm] at k2; exact k2, k3, k4, k5, n1, n2, n3, by rw [sfg_up n1 n2 n3, bx_uu]; rfl⟩) dX3_init_68


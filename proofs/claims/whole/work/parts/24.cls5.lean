/-- the object itself -/
def xC (w : Nat → Int32) (ad : Nat → Nat) : va_E := .inr (4, [.ref (ad 0), .ref (ad 1), .ref (ad 2), .ref (ad 3), .ref (ad 4), .ref (ad 5), .int (w 6), .int (w 7), .int (w 8), .int (w 9), .int (w 10), .int (w 11)])
def rfC (cA : ClassId) (n : Nat) (f : Nat → Option Nat) : va_E := .inl (cA, n, .inr (.inr (.inr (.inr f))))
/-- a figure with its rows; the labels tell cells of one kind apart -/
def figAt (cs : Nat → ClassId) (lab : Nat → Nat) (M : wM) (a k n : Nat) (f gx gy : Nat → Int32) : Prop := ∃ xa ya, M a = some (figC f xa ya) ∧ M xa = some (arC cs n gx) ∧ M ya = some (arC cs n gy) ∧ lab a = k ∧ lab xa = k + 1 ∧ lab ya = k + 2
/-- the class's state: E 0 notes, 1 2 3 bars, 4 curves, 5 parts, 6 7 8 their hulls, 9 the trial, 10 the widths; J 0 corners of bars, 1 2 notes of curves, 3 the curve of a part -/
def CSx (cs : Nat → ClassId) (lab : Nat → Nat) (M : wM) (Z : Nat) (ad : Nat → Nat) (w : Nat → Int32) (E : Nat → Nat → Nat → Int32) (J : Nat → Nat → Nat) (nn nb nc np : Nat) (NA BA CA PA : Nat → Option Nat) : Prop :=
  M Z = some (xC w ad) ∧ (M (ad 0) = some (arC cs 4 (E 10 0)) ∧ lab (ad 0) = 0) ∧ M (ad 1) = some (rfC (cs 5) 60 NA) ∧ M (ad 2) = some (rfC (cs 4) 52 BA) ∧ M (ad 3) = some (rfC (cs 3) 40 CA) ∧ M (ad 4) = some (rfC (cs 6) 80 PA) ∧ figAt cs lab M (ad 5) 1 4 (E 9 0) (E 9 1) (E 9 2) ∧
  (∀ i, i < nn → ∃ a, NA i = some a ∧ M a = some (noteC (E 0 i))) ∧
  (∀ i, i < nb → ∃ a, BA i = some a ∧ J 0 i ≤ 4 ∧ figAt cs lab M a (10 + 6 * i) (J 0 i) (E 1 i) (E 2 i) (E 3 i)) ∧
  (∀ i, i < nc → ∃ a a1 a2, CA i = some a ∧ M a = some (curC (E 4 i) a1 a2) ∧ M a1 = some (noteC (E 0 (J 1 i))) ∧ M a2 = some (noteC (E 0 (J 2 i)))) ∧
  (∀ i, i < np → ∃ a c h a1 a2, PA i = some a ∧ M a = some (parC (E 5 i) c h) ∧ lab a = i ∧ M c = some (curC (E 4 (J 3 i)) a1 a2) ∧ figAt cs lab M h (13 + 6 * i) 4 (E 6 i) (E 7 i) (E 8 i)) ∧
  (∀ i, i < nc → J 1 i < nn ∧ J 2 i < nn) ∧ (∀ i, i < np → J 3 i < nc)
section CSA
variable {cs : Nat → ClassId} {lab : Nat → Nat} {M : wM} {Z : Nat} {ad : Nat → Nat} {w : Nat → Int32} {E : Nat → Nat → Nat → Int32} {J : Nat → Nat → Nat} {nn nb nc np : Nat} {NA BA CA PA : Nat → Option Nat}
theorem CSx.z (h : CSx cs lab M Z ad w E J nn nb nc np NA BA CA PA) : M Z = some (xC w ad) := h.1
theorem CSx.wd (h : CSx cs lab M Z ad w E J nn nb nc np NA BA CA PA) : M (ad 0) = some (arC cs 4 (E 10 0)) := h.2.1.1
theorem CSx.na (h : CSx cs lab M Z ad w E J nn nb nc np NA BA CA PA) : M (ad 1) = some (rfC (cs 5) 60 NA) := h.2.2.1
theorem CSx.ba (h : CSx cs lab M Z ad w E J nn nb nc np NA BA CA PA) : M (ad 2) = some (rfC (cs 4) 52 BA) := h.2.2.2.1
theorem CSx.ca (h : CSx cs lab M Z ad w E J nn nb nc np NA BA CA PA) : M (ad 3) = some (rfC (cs 3) 40 CA) := h.2.2.2.2.1
theorem CSx.pa (h : CSx cs lab M Z ad w E J nn nb nc np NA BA CA PA) : M (ad 4) = some (rfC (cs 6) 80 PA) := h.2.2.2.2.2.1
theorem CSx.tr (h : CSx cs lab M Z ad w E J nn nb nc np NA BA CA PA) : figAt cs lab M (ad 5) 1 4 (E 9 0) (E 9 1) (E 9 2) := h.2.2.2.2.2.2.1
theorem CSx.note (h : CSx cs lab M Z ad w E J nn nb nc np NA BA CA PA) (i : Nat) (hi : i < nn) : ∃ a, NA i = some a ∧ M a = some (noteC (E 0 i)) := h.2.2.2.2.2.2.2.1 i hi
theorem CSx.bar (h : CSx cs lab M Z ad w E J nn nb nc np NA BA CA PA) (i : Nat) (hi : i < nb) : ∃ a, BA i = some a ∧ J 0 i ≤ 4 ∧ figAt cs lab M a (10 + 6 * i) (J 0 i) (E 1 i) (E 2 i) (E 3 i) := h.2.2.2.2.2.2.2.2.1 i hi
theorem CSx.cur (h : CSx cs lab M Z ad w E J nn nb nc np NA BA CA PA) (i : Nat) (hi : i < nc) : ∃ a a1 a2, CA i = some a ∧ M a = some (curC (E 4 i) a1 a2) ∧ M a1 = some (noteC (E 0 (J 1 i))) ∧ M a2 = some (noteC (E 0 (J 2 i))) := h.2.2.2.2.2.2.2.2.2.1 i hi
theorem CSx.part (h : CSx cs lab M Z ad w E J nn nb nc np NA BA CA PA) (i : Nat) (hi : i < np) : ∃ a c h a1 a2, PA i = some a ∧ M a = some (parC (E 5 i) c h) ∧ lab a = i ∧ M c = some (curC (E 4 (J 3 i)) a1 a2) ∧ figAt cs lab M h (13 + 6 * i) 4 (E 6 i) (E 7 i) (E 8 i) := h.2.2.2.2.2.2.2.2.2.2.1 i hi
theorem CSx.ji (h : CSx cs lab M Z ad w E J nn nb nc np NA BA CA PA) (i : Nat) (hi : i < nc) : J 1 i < nn ∧ J 2 i < nn := h.2.2.2.2.2.2.2.2.2.2.2.1 i hi
theorem CSx.jp (h : CSx cs lab M Z ad w E J nn nb nc np NA BA CA PA) (i : Nat) (hi : i < np) : J 3 i < nc := h.2.2.2.2.2.2.2.2.2.2.2.2 i hi
end CSA
set_option maxHeartbeats 4000000 in
set_option maxRecDepth 100000 in
theorem c_X4_isFrom (l : Launch) (D : va_G) (cs : Nat → ClassId) (M : wM) (p0 p1 p2 : Int32) : Met l yX4_isFrom (mw yX4_isFrom cX4_isFrom 3 (some .boolean)) { frames := 0, cells := 0, slots := 0, locals := 0 } (roP D cs M [.int p0, .int p1, .int p2]) (vp_Si (fun r => r = bI (inB p1 p0 p2 = true))) 0 0 noA := by
  refine ro_met rfl (Nat.le_of_ble_eq_true rfl) ?_
  intro p e s m below meth c ls C hR hr hlk hl
  have C : kx D cs p m c cX4_isFrom 3 s _ RX4 := C
  have hx := C.1.1
  have hb := C.1.2.1
  have hl : lv_has ls 3 [(0, .int p0), (1, .int p1), (2, .int p2)] := hl
  refine lv_iload_n hx hb dX4_isFrom_0 rfl (lv_at hl 0 rfl) ?_
  refine lv_iload_n hx hb dX4_isFrom_1 rfl (lv_at hl 1 rfl) ?_
  refine lv_icmp_gt (tgt := 14) hx hb dX4_isFrom_2 (by decide) (fun c_2 => ?_) (fun c_2 => ?_)
  · refine lv_iconst (v := 0) hx hb dX4_isFrom_14 (by decide) ?_
    exact ro_zret C hr hlk rfl (bI_f (by simp [inB, c_2])) dX4_isFrom_15
  · refine lv_iload_n hx hb dX4_isFrom_5 rfl (lv_at hl 1 rfl) ?_
    refine lv_iload_n hx hb dX4_isFrom_6 rfl (lv_at hl 2 rfl) ?_
    refine lv_icmp_gt (tgt := 14) hx hb dX4_isFrom_7 (by decide) (fun c_7 => ?_) (fun c_7 => ?_)
    · refine lv_iconst (v := 0) hx hb dX4_isFrom_14 (by decide) ?_
      exact ro_zret C hr hlk rfl (bI_f (by simp [inB, c_2, c_7])) dX4_isFrom_15
    · refine lv_iconst (v := 1) hx hb dX4_isFrom_10 (by decide) ?_
      refine lv_goto (tgt := 15) hx hb dX4_isFrom_11 (by decide) ?_
      exact ro_zret C hr hlk rfl (bI_t (by simp [inB, c_2, c_7])) dX4_isFrom_15

set_option maxHeartbeats 4000000 in
set_option maxRecDepth 100000 in
theorem c_X4_isLine (l : Launch) (D : va_G) (cs : Nat → ClassId) (M : wM) (Z : Nat) (lab ad : Nat → Nat) (w : Nat → Int32) (E : Nat → Nat → Nat → Int32) (J : Nat → Nat → Nat) (nn nb nc np : Nat) (NA BA CA PA : Nat → Option Nat) (hC : CSx cs lab M Z ad w E J nn nb nc np NA BA CA PA) (p1 : Int32) : Met l yX4_isLine (mw yX4_isLine cX4_isLine 2 (some .boolean)) { frames := 1, cells := 0, slots := 0, locals := 22 } (roP D cs M [.ref Z, .int p1]) (vp_Si (fun r => r = bI (inB p1 0 (w 6 - 1) = true))) 0 0 noA := by
  refine ro_met rfl (Nat.le_of_ble_eq_true rfl) ?_
  intro p e s m below meth c ls C hR hr hlk hl
  have C : kx D cs p m c cX4_isLine 2 s _ RX4 := C
  have hx := C.1.1
  have hb := C.1.2.1
  have hl : lv_has ls 2 [(0, .ref Z), (1, .int p1)] := hl
  refine lv_iconst (v := 0) hx hb dX4_isLine_0 (by decide) ?_
  refine lv_iload_n hx hb dX4_isLine_1 rfl (lv_at hl 1 rfl) ?_
  refine lv_aload_n hx hb dX4_isLine_2 rfl (lv_at hl 0 rfl) ?_
  refine gf_X4_52 C hR (CSx.z hC) rfl dX4_isLine_3 ?_
  refine lv_iconst (v := 1) hx hb dX4_isLine_6 (by decide) ?_
  refine lv_isub hx hb dX4_isLine_7 ?_
  refine ro_goI (ro_S (As := [.int 0, .int p1, .int ((w 6) - 1)]) (rest := []) C hR st_X4_48 (c_X4_isFrom l D cs _ 0 p1 ((w 6) - 1)) ⟨rfl, rfl, Nat.le_of_ble_eq_true rfl, Nat.le_of_ble_eq_true rfl⟩ rfl hl.1 rfl (Nat.le_of_ble_eq_true rfl) dX4_isLine_8 ⟨Nat.le_of_ble_eq_true rfl, Nat.le_of_ble_eq_true rfl⟩) (fun r_8 h_8 => ?_)
  exact ro_zret C hr hlk (z_nar (bI_01 h_8)) h_8 dX4_isLine_11

set_option maxHeartbeats 4000000 in
set_option maxRecDepth 100000 in
theorem c_X4_isNote (l : Launch) (D : va_G) (cs : Nat → ClassId) (M : wM) (Z : Nat) (lab ad : Nat → Nat) (w : Nat → Int32) (E : Nat → Nat → Nat → Int32) (J : Nat → Nat → Nat) (nn nb nc np : Nat) (NA BA CA PA : Nat → Option Nat) (hC : CSx cs lab M Z ad w E J nn nb nc np NA BA CA PA) (p1 : Int32) : Met l yX4_isNote (mw yX4_isNote cX4_isNote 2 (some .boolean)) { frames := 1, cells := 0, slots := 0, locals := 22 } (roP D cs M [.ref Z, .int p1]) (vp_Si (fun r => r = bI (inB p1 0 (w 7 - 1) = true))) 0 0 noA := by
  refine ro_met rfl (Nat.le_of_ble_eq_true rfl) ?_
  intro p e s m below meth c ls C hR hr hlk hl
  have C : kx D cs p m c cX4_isNote 2 s _ RX4 := C
  have hx := C.1.1
  have hb := C.1.2.1
  have hl : lv_has ls 2 [(0, .ref Z), (1, .int p1)] := hl
  refine lv_iconst (v := 0) hx hb dX4_isNote_0 (by decide) ?_
  refine lv_iload_n hx hb dX4_isNote_1 rfl (lv_at hl 1 rfl) ?_
  refine lv_aload_n hx hb dX4_isNote_2 rfl (lv_at hl 0 rfl) ?_
  refine gf_X4_60 C hR (CSx.z hC) rfl dX4_isNote_3 ?_
  refine lv_iconst (v := 1) hx hb dX4_isNote_6 (by decide) ?_
  refine lv_isub hx hb dX4_isNote_7 ?_
  refine ro_goI (ro_S (As := [.int 0, .int p1, .int ((w 7) - 1)]) (rest := []) C hR st_X4_48 (c_X4_isFrom l D cs _ 0 p1 ((w 7) - 1)) ⟨rfl, rfl, Nat.le_of_ble_eq_true rfl, Nat.le_of_ble_eq_true rfl⟩ rfl hl.1 rfl (Nat.le_of_ble_eq_true rfl) dX4_isNote_8 ⟨Nat.le_of_ble_eq_true rfl, Nat.le_of_ble_eq_true rfl⟩) (fun r_8 h_8 => ?_)
  exact ro_zret C hr hlk (z_nar (bI_01 h_8)) h_8 dX4_isNote_11

set_option maxHeartbeats 4000000 in
set_option maxRecDepth 100000 in
theorem c_X4_isCurve (l : Launch) (D : va_G) (cs : Nat → ClassId) (M : wM) (Z : Nat) (lab ad : Nat → Nat) (w : Nat → Int32) (E : Nat → Nat → Nat → Int32) (J : Nat → Nat → Nat) (nn nb nc np : Nat) (NA BA CA PA : Nat → Option Nat) (hC : CSx cs lab M Z ad w E J nn nb nc np NA BA CA PA) (p1 : Int32) : Met l yX4_isCurve (mw yX4_isCurve cX4_isCurve 2 (some .boolean)) { frames := 1, cells := 0, slots := 0, locals := 22 } (roP D cs M [.ref Z, .int p1]) (vp_Si (fun r => r = bI (inB p1 0 (w 10 - 1) = true))) 0 0 noA := by
  refine ro_met rfl (Nat.le_of_ble_eq_true rfl) ?_
  intro p e s m below meth c ls C hR hr hlk hl
  have C : kx D cs p m c cX4_isCurve 2 s _ RX4 := C
  have hx := C.1.1
  have hb := C.1.2.1
  have hl : lv_has ls 2 [(0, .ref Z), (1, .int p1)] := hl
  refine lv_iconst (v := 0) hx hb dX4_isCurve_0 (by decide) ?_
  refine lv_iload_n hx hb dX4_isCurve_1 rfl (lv_at hl 1 rfl) ?_
  refine lv_aload_n hx hb dX4_isCurve_2 rfl (lv_at hl 0 rfl) ?_
  refine gf_X4_169 C hR (CSx.z hC) rfl dX4_isCurve_3 ?_
  refine lv_iconst (v := 1) hx hb dX4_isCurve_6 (by decide) ?_
  refine lv_isub hx hb dX4_isCurve_7 ?_
  refine ro_goI (ro_S (As := [.int 0, .int p1, .int ((w 10) - 1)]) (rest := []) C hR st_X4_48 (c_X4_isFrom l D cs _ 0 p1 ((w 10) - 1)) ⟨rfl, rfl, Nat.le_of_ble_eq_true rfl, Nat.le_of_ble_eq_true rfl⟩ rfl hl.1 rfl (Nat.le_of_ble_eq_true rfl) dX4_isCurve_8 ⟨Nat.le_of_ble_eq_true rfl, Nat.le_of_ble_eq_true rfl⟩) (fun r_8 h_8 => ?_)
  exact ro_zret C hr hlk (z_nar (bI_01 h_8)) h_8 dX4_isCurve_11

def xBar (E : Nat → Nat → Nat → Int32) (j : Nat) (x y : Int32) : Bool := inB x 0 (E 10 0 j) && inB y (-200) 200
set_option maxHeartbeats 4000000 in
set_option maxRecDepth 100000 in
theorem c_X4_isBarPlace (l : Launch) (D : va_G) (cs : Nat → ClassId) (M : wM) (Z : Nat) (lab ad : Nat → Nat) (w : Nat → Int32) (E : Nat → Nat → Nat → Int32) (J : Nat → Nat → Nat) (nn nb nc np : Nat) (NA BA CA PA : Nat → Option Nat) (hC : CSx cs lab M Z ad w E J nn nb nc np NA BA CA PA) (j : Nat) (hj : j < 4) (x y : Int32) : Met l yX4_isBarPlace (mw yX4_isBarPlace cX4_isBarPlace 4 (some .boolean)) { frames := 1, cells := 0, slots := 0, locals := 22 } (roP D cs M [.ref Z, .int (nI j), .int x, .int y]) (vp_Si (fun r => r = bI (xBar E j x y = true))) 0 0 noA := by
  refine ro_met rfl (Nat.le_of_ble_eq_true rfl) ?_
  intro p e s m below meth c ls C hR hr hlk hl
  have C : kx D cs p m c cX4_isBarPlace 4 s _ RX4 := C
  have hx := C.1.1
  have hb := C.1.2.1
  have hl : lv_has ls 4 [(0, .ref Z), (1, .int (nI j)), (2, .int x), (3, .int y)] := hl
  refine lv_iconst (v := 0) hx hb dX4_isBarPlace_0 (by decide) ?_
  refine lv_iload_n hx hb dX4_isBarPlace_1 rfl (lv_at hl 2 rfl) ?_
  refine lv_aload_n hx hb dX4_isBarPlace_2 rfl (lv_at hl 0 rfl) ?_
  refine gf_X4_9 C hR (CSx.z hC) rfl dX4_isBarPlace_3 ?_
  refine lv_iload_n hx hb dX4_isBarPlace_6 rfl (lv_at hl 1 rfl) ?_
  refine r_ialdN (k := j) C hR (CSx.wd hC) (by omega) (by decide) rfl dX4_isBarPlace_7 ?_
  refine ro_goI (ro_S (As := [.int 0, .int x, .int (E 10 0 j)]) (rest := []) C hR st_X4_48 (c_X4_isFrom l D cs _ 0 x (E 10 0 j)) ⟨rfl, rfl, Nat.le_of_ble_eq_true rfl, Nat.le_of_ble_eq_true rfl⟩ rfl hl.1 rfl (Nat.le_of_ble_eq_true rfl) dX4_isBarPlace_8 ⟨Nat.le_of_ble_eq_true rfl, Nat.le_of_ble_eq_true rfl⟩) (fun r_8 h_8 => ?_)
  refine lv_if_eq (tgt := 31) hx hb dX4_isBarPlace_11 (by decide) (fun c_11 => ?_) (fun c_11 => ?_)
  · have c_11 : ¬ (inB x 0 (E 10 0 j) = true) := bz0 h_8 c_11
    refine lv_iconst (v := 0) hx hb dX4_isBarPlace_31 (by decide) ?_
    exact ro_zret C hr hlk rfl (bI_f (by simp [xBar, c_11])) dX4_isBarPlace_32
  · have c_11 : inB x 0 (E 10 0 j) = true := bz1 h_8 c_11
    refine lv_sipush (v := (-200)) hx hb dX4_isBarPlace_14 (by decide) ?_
    refine lv_iload_n hx hb dX4_isBarPlace_17 rfl (lv_at hl 3 rfl) ?_
    refine lv_sipush (v := 200) hx hb dX4_isBarPlace_18 (by decide) ?_
    refine ro_goI (ro_S (As := [.int (-200), .int y, .int 200]) (rest := []) C hR st_X4_48 (c_X4_isFrom l D cs _ (-200) y 200) ⟨rfl, rfl, Nat.le_of_ble_eq_true rfl, Nat.le_of_ble_eq_true rfl⟩ rfl hl.1 rfl (Nat.le_of_ble_eq_true rfl) dX4_isBarPlace_21 ⟨Nat.le_of_ble_eq_true rfl, Nat.le_of_ble_eq_true rfl⟩) (fun r_21 h_21 => ?_)
    refine lv_if_eq (tgt := 31) hx hb dX4_isBarPlace_24 (by decide) (fun c_24 => ?_) (fun c_24 => ?_)
    · have c_24 : ¬ (inB y (-200) 200 = true) := bz0 h_21 c_24
      refine lv_iconst (v := 0) hx hb dX4_isBarPlace_31 (by decide) ?_
      exact ro_zret C hr hlk rfl (bI_f (by simp [xBar, c_11, c_24])) dX4_isBarPlace_32
    · have c_24 : inB y (-200) 200 = true := bz1 h_21 c_24
      refine lv_iconst (v := 1) hx hb dX4_isBarPlace_27 (by decide) ?_
      refine lv_goto (tgt := 32) hx hb dX4_isBarPlace_28 (by decide) ?_
      exact ro_zret C hr hlk rfl (bI_t (by simp [xBar, c_11, c_24])) dX4_isBarPlace_32

def pcN (E : Nat → Nat → Nat → Int32) (J : Nat → Nat → Nat) (c : Nat) : Nat := if E 0 (J 1 c) 1 = E 0 (J 2 c) 1 then 1 else 2
theorem pcN_eq (E : Nat → Nat → Nat → Int32) (J : Nat → Nat → Nat) (c : Nat) : cPc (E 0 (J 1 c)) (E 0 (J 2 c)) = nI (pcN E J c) := by unfold cPc pcN; split <;> rfl
theorem pcN_le (E : Nat → Nat → Nat → Int32) (J : Nat → Nat → Nat) (c : Nat) : 1 ≤ pcN E J c ∧ pcN E J c ≤ 2 := by unfold pcN; split <;> omega
def xPart (w : Nat → Int32) (E : Nat → Nat → Nat → Int32) (J : Nat → Nat → Nat) (x y : Int32) : Bool := inB x 0 (w 10 - 1) && inB y 0 (nI (pcN E J x.toNatClampNeg) - 1)
def xI (fp : Nat → Nat) (x y : Int32) : Nat := fp x.toNatClampNeg + y.toNatClampNeg
theorem xI_eq (fp : Nat → Nat) {j p : Nat} (hj : j < 1000) (hp : p < 1000) : xI fp (nI j) (nI p) = fp j + p := by unfold xI; rw [nI_clamp (by omega), nI_clamp (by omega)]
/-- what findPart answers -/
def fpQ (w : Nat → Int32) (E : Nat → Nat → Nat → Int32) (J : Nat → Nat → Nat) (nc : Nat) (fp : Nat → Nat) (PA : Nat → Option Nat) (x y : Int32) (r : Option Nat) : Prop := (r = none ∧ xPart w E J x y = false) ∨ ∃ c p, x = nI c ∧ y = nI p ∧ c < nc ∧ p < pcN E J c ∧ r = PA (fp c + p) ∧ xPart w E J x y = true
set_option maxHeartbeats 4000000 in
set_option maxRecDepth 100000 in
theorem c_X4_findPart (l : Launch) (D : va_G) (cs : Nat → ClassId) (M : wM) (Z : Nat) (lab ad : Nat → Nat) (w : Nat → Int32) (E : Nat → Nat → Nat → Int32) (J : Nat → Nat → Nat) (nn nb nc np : Nat) (NA BA CA PA : Nat → Option Nat) (hC : CSx cs lab M Z ad w E J nn nb nc np NA BA CA PA) (hnc : w 10 = nI nc) (hc40 : nc ≤ 40) (fp : Nat → Nat) (hfp : ∀ c, c < nc → E 4 c 5 = nI (fp c) ∧ fp c + pcN E J c ≤ np) (hp80 : np ≤ 80) (p1 p2 : Int32) : Met l yX4_findPart (mw yX4_findPart cX4_findPart 3 (some (.object "CurveTies$Part"))) { frames := 2, cells := 0, slots := 0, locals := 43 } (roP D cs M [.ref Z, .int p1, .int p2]) (va_Sq (fpQ w E J nc fp PA p1 p2)) 0 0 noA := by
  refine ro_met rfl (Nat.le_of_ble_eq_true rfl) ?_
  intro p e s m below meth c ls C hR hr hlk hl
  have C : kx D cs p m c cX4_findPart 3 s _ RX4 := C
  have hx := C.1.1
  have hb := C.1.2.1
  have hl : lv_has ls 3 [(0, .ref Z), (1, .int p1), (2, .int p2)] := hl
  refine lv_aload_n hx hb dX4_findPart_0 rfl (lv_at hl 0 rfl) ?_
  refine lv_iload_n hx hb dX4_findPart_1 rfl (lv_at hl 1 rfl) ?_
  refine ro_goI (ro_V (As := [.int p1]) (rest := []) C hR st_X4_96 (c_X4_isCurve l D cs _ Z lab ad w E J nn nb nc np NA BA CA PA hC p1) (CSx.z hC) rfl rfl ⟨rfl, rfl, Nat.le_of_ble_eq_true rfl, Nat.le_of_ble_eq_true rfl⟩ rfl hl.1 rfl (Nat.le_of_ble_eq_true rfl) dX4_findPart_2 ⟨Nat.le_of_ble_eq_true rfl, Nat.le_of_ble_eq_true rfl⟩) (fun r_2 h_2 => ?_)
  refine lv_if_eq (tgt := 27) hx hb dX4_findPart_5 (by decide) (fun c_5 => ?_) (fun c_5 => ?_)
  · have c_5 : ¬ (inB p1 0 (w 10 - 1) = true) := bz0 h_2 c_5
    refine lv_null hx hb dX4_findPart_27 ?_
    exact ro_aret C hr (Or.inl ⟨_, rfl⟩) hlk none rfl (Or.inl ⟨rfl, by unfold xPart; rw [Bool.and_eq_false_iff]; exact Or.inl (by simpa using c_5)⟩) dX4_findPart_28
  · have c_5 : inB p1 0 (w 10 - 1) = true := bz1 h_2 c_5
    obtain ⟨j, hjj, rfl⟩ := inP_nat c_5 hnc (by omega)
    have hclj := nI_clamp (n := j) (by omega)
    have hpc := pcN_le E J j
    have hfj := (hfp j hjj).2
    refine lv_iconst (v := 0) hx hb dX4_findPart_8 (by decide) ?_
    refine lv_iload_n hx hb dX4_findPart_9 rfl (lv_at hl 2 rfl) ?_
    refine lv_aload_n hx hb dX4_findPart_10 rfl (lv_at hl 0 rfl) ?_
    refine gf_X4_27 C hR (CSx.z hC) rfl dX4_findPart_11 ?_
    refine lv_iload_n hx hb dX4_findPart_14 rfl (lv_at hl 1 rfl) ?_
    obtain ⟨a_15, b1_15, b2_15, ga_15, gk_15, g1_15, g2_15⟩ := CSx.cur hC j (by omega)
    refine r_aaldN (k := j) C hR 3 (CSx.ca hC) rfl (by omega) (by decide) rfl ga_15 dX4_findPart_15 ?_
    refine ro_goI (ro_V (As := []) (rest := [.int p2, .int 0]) C hR st_X4_112 (c_X0_partCount l D cs _ a_15 b1_15 b2_15 (E 4 j) (E 0 (J 1 j)) (E 0 (J 2 j)) gk_15 g1_15 g2_15) gk_15 rfl rfl ⟨rfl, rfl, Nat.le_of_ble_eq_true rfl, Nat.le_of_ble_eq_true rfl⟩ rfl hl.1 rfl (Nat.le_of_ble_eq_true rfl) dX4_findPart_16 ⟨Nat.le_of_ble_eq_true rfl, Nat.le_of_ble_eq_true rfl⟩) (fun r_16 h_16 => ?_)
    refine lv_iconst (v := 1) hx hb dX4_findPart_19 (by decide) ?_
    refine lv_isub hx hb dX4_findPart_20 ?_
    refine ro_goI (ro_S (As := [.int 0, .int p2, .int (r_16 - 1)]) (rest := []) C hR st_X4_48 (c_X4_isFrom l D cs _ 0 p2 (r_16 - 1)) ⟨rfl, rfl, Nat.le_of_ble_eq_true rfl, Nat.le_of_ble_eq_true rfl⟩ rfl hl.1 rfl (Nat.le_of_ble_eq_true rfl) dX4_findPart_21 ⟨Nat.le_of_ble_eq_true rfl, Nat.le_of_ble_eq_true rfl⟩) (fun r_21 h_21 => ?_)
    refine lv_if_ne (tgt := 29) hx hb dX4_findPart_24 (by decide) (fun c_24 => ?_) (fun c_24 => ?_)
    · have c_24 : inB p2 0 (r_16 - 1) = true := bz1 h_21 c_24
      rw [h_16, pcN_eq] at c_24
      have hx2 : xPart w E J (nI j) p2 = true := by unfold xPart; rw [Bool.and_eq_true, hclj]; exact ⟨c_5, c_24⟩
      obtain ⟨p, hp2, rfl⟩ := inP_nat c_24 rfl (by omega)
      refine lv_aload_n hx hb dX4_findPart_29 rfl (lv_at hl 0 rfl) ?_
      refine gf_X4_33 C hR (CSx.z hC) rfl dX4_findPart_30 ?_
      refine lv_aload_n hx hb dX4_findPart_33 rfl (lv_at hl 0 rfl) ?_
      refine gf_X4_27 C hR (CSx.z hC) rfl dX4_findPart_34 ?_
      refine lv_iload_n hx hb dX4_findPart_37 rfl (lv_at hl 1 rfl) ?_
      obtain ⟨a_38, b1_38, b2_38, ga_38, gk_38, g1_38, g2_38⟩ := CSx.cur hC j (by omega)
      refine r_aaldN (k := j) C hR 3 (CSx.ca hC) rfl (by omega) (by decide) rfl ga_38 dX4_findPart_38 ?_
      refine gf_X4_175 C hR gk_38 rfl dX4_findPart_39 ?_
      refine top_eq (y := nI (fp j)) ((hfp j hjj).1) ?_
      refine lv_iload_n hx hb dX4_findPart_42 rfl (lv_at hl 2 rfl) ?_
      refine lv_iadd hx hb dX4_findPart_43 ?_
      refine top_eq (y := nI ((fp j) + p)) (tn_add rfl rfl) ?_
      obtain ⟨a_44, c_pz, h_pz, b1_pz, b2_pz, ga_44, -, -, -, -⟩ := CSx.part hC ((fp j) + p) (by omega)
      refine r_aaldN (k := ((fp j) + p)) C hR 6 (CSx.pa hC) rfl (by omega) (by decide) rfl ga_44 dX4_findPart_44 ?_
      exact ro_aret C hr (Or.inl ⟨_, rfl⟩) hlk (some a_44) rfl (Or.inr ⟨j, p, rfl, rfl, hjj, hp2, ga_44.symm, hx2⟩) dX4_findPart_45
    · have c_24 : ¬ (inB p2 0 (r_16 - 1) = true) := bz0 h_21 c_24
      refine lv_null hx hb dX4_findPart_27 ?_
      exact ro_aret C hr (Or.inl ⟨_, rfl⟩) hlk none rfl (Or.inl ⟨rfl, by rw [h_16, pcN_eq] at c_24; unfold xPart; rw [hclj, Bool.and_eq_false_iff]; exact Or.inr (by simpa using c_24)⟩) dX4_findPart_28

theorem fpQ_some {cs : Nat → ClassId} {lab : Nat → Nat} {M : wM} {Z : Nat} {ad : Nat → Nat} {w : Nat → Int32} {E : Nat → Nat → Nat → Int32} {J : Nat → Nat → Nat} {nn nb nc np : Nat} {NA BA CA PA : Nat → Option Nat} (h : CSx cs lab M Z ad w E J nn nb nc np NA BA CA PA) {fp : Nat → Nat} (hfp : ∀ c, c < nc → E 4 c 5 = nI (fp c) ∧ fp c + pcN E J c ≤ np) {c p : Nat} (hc : c < nc) (hp : p < pcN E J c) : ¬ (none = PA (fp c + p)) := by
  have h1 := (hfp c hc).2
  obtain ⟨a, _, _, _, _, h2, _⟩ := h.part (fp c + p) (by omega)
  rw [h2]
  exact fun q => by cases q
def xJoin (W n0 n1 : Nat → Int32) (la : Nat) : Bool := decide (nBef n0 n1 = true ∧ (if n0 1 = n1 1 then ¬ n1 2 - n0 2 < 12 else (n1 1 - n0 1 = 1 ∧ ¬ W la - n0 2 < 12 ∧ ¬ n1 2 < 12)))
set_option maxHeartbeats 4000000 in
set_option maxRecDepth 100000 in
theorem c_X4_canBeJoined (l : Launch) (D : va_G) (cs : Nat → ClassId) (M : wM) (Z : Nat) (lab ad : Nat → Nat) (w : Nat → Int32) (E : Nat → Nat → Nat → Int32) (J : Nat → Nat → Nat) (nn nb nc np : Nat) (NA BA CA PA : Nat → Option Nat) (hC : CSx cs lab M Z ad w E J nn nb nc np NA BA CA PA) (a b : Nat) (n0 n1 : Nat → Int32) (ha : M a = some (noteC n0)) (hb0 : M b = some (noteC n1)) (la : Nat) (hla : n0 1 = nI la) (hl4 : la < 4) : Met l yX4_canBeJoined (mw yX4_canBeJoined cX4_canBeJoined 3 (some .boolean)) { frames := 1, cells := 0, slots := 0, locals := 21 } (roP D cs M [.ref Z, .ref a, .ref b]) (vp_Si (fun r => r = bI (xJoin (E 10 0) n0 n1 la = true))) 0 0 noA := by
  refine ro_met rfl (Nat.le_of_ble_eq_true rfl) ?_
  intro p e s m below meth c ls C hR hr hlk hl
  have C : kx D cs p m c cX4_canBeJoined 3 s _ RX4 := C
  have hx := C.1.1
  have hb := C.1.2.1
  have hl : lv_has ls 3 [(0, .ref Z), (1, .ref a), (2, .ref b)] := hl
  refine lv_aload_n hx hb dX4_canBeJoined_0 rfl (lv_at hl 1 rfl) ?_
  refine lv_aload_n hx hb dX4_canBeJoined_1 rfl (lv_at hl 2 rfl) ?_
  refine ro_goI (ro_V (As := [.ref b]) (rest := []) C hR st_X4_203 (c_X2_isBefore l D cs _ a b n0 n1 ha hb0) ha rfl rfl ⟨rfl, rfl, Nat.le_of_ble_eq_true rfl, Nat.le_of_ble_eq_true rfl⟩ rfl hl.1 rfl (Nat.le_of_ble_eq_true rfl) dX4_canBeJoined_2 ⟨Nat.le_of_ble_eq_true rfl, Nat.le_of_ble_eq_true rfl⟩) (fun r_2 h_2 => ?_)
  refine lv_if_ne (tgt := 10) hx hb dX4_canBeJoined_5 (by decide) (fun c_5 => ?_) (fun c_5 => ?_)
  · have c_5 : nBef n0 n1 = true := bz1 h_2 c_5
    refine lv_aload_n hx hb dX4_canBeJoined_10 rfl (lv_at hl 1 rfl) ?_
    refine gf_X4_207 C hR ha rfl dX4_canBeJoined_11 ?_
    refine lv_aload_n hx hb dX4_canBeJoined_14 rfl (lv_at hl 2 rfl) ?_
    refine gf_X4_207 C hR hb0 rfl dX4_canBeJoined_15 ?_
    refine lv_icmp_ne (tgt := 41) hx hb dX4_canBeJoined_18 (by decide) (fun c_18 => ?_) (fun c_18 => ?_)
    · refine lv_aload_n hx hb dX4_canBeJoined_41 rfl (lv_at hl 2 rfl) ?_
      refine gf_X4_207 C hR hb0 rfl dX4_canBeJoined_42 ?_
      refine lv_aload_n hx hb dX4_canBeJoined_45 rfl (lv_at hl 1 rfl) ?_
      refine gf_X4_207 C hR ha rfl dX4_canBeJoined_46 ?_
      refine lv_isub hx hb dX4_canBeJoined_49 ?_
      refine lv_iconst (v := 1) hx hb dX4_canBeJoined_50 (by decide) ?_
      refine lv_icmp_ne (tgt := 86) hx hb dX4_canBeJoined_51 (by decide) (fun c_51 => ?_) (fun c_51 => ?_)
      · refine lv_iconst (v := 0) hx hb dX4_canBeJoined_86 (by decide) ?_
        exact ro_zret C hr hlk rfl (bI_f (by simp [xJoin, c_5, c_18, c_51])) dX4_canBeJoined_87
      · refine lv_aload_n hx hb dX4_canBeJoined_54 rfl (lv_at hl 0 rfl) ?_
        refine gf_X4_9 C hR (CSx.z hC) rfl dX4_canBeJoined_55 ?_
        refine lv_aload_n hx hb dX4_canBeJoined_58 rfl (lv_at hl 1 rfl) ?_
        refine gf_X4_207 C hR ha rfl dX4_canBeJoined_59 ?_
        refine top_eq (y := nI la) hla ?_
        refine r_ialdN (k := la) C hR (CSx.wd hC) (by omega) (by decide) rfl dX4_canBeJoined_62 ?_
        refine lv_aload_n hx hb dX4_canBeJoined_63 rfl (lv_at hl 1 rfl) ?_
        refine gf_X4_208 C hR ha rfl dX4_canBeJoined_64 ?_
        refine lv_isub hx hb dX4_canBeJoined_67 ?_
        refine lv_bipush (v := 12) hx hb dX4_canBeJoined_68 (by decide) ?_
        refine lv_icmp_lt (tgt := 86) hx hb dX4_canBeJoined_70 (by decide) (fun c_70 => ?_) (fun c_70 => ?_)
        · refine lv_iconst (v := 0) hx hb dX4_canBeJoined_86 (by decide) ?_
          exact ro_zret C hr hlk rfl (bI_f (by simp [xJoin, c_5, c_18, c_51, c_70])) dX4_canBeJoined_87
        · refine lv_aload_n hx hb dX4_canBeJoined_73 rfl (lv_at hl 2 rfl) ?_
          refine gf_X4_208 C hR hb0 rfl dX4_canBeJoined_74 ?_
          refine lv_bipush (v := 12) hx hb dX4_canBeJoined_77 (by decide) ?_
          refine lv_icmp_lt (tgt := 86) hx hb dX4_canBeJoined_79 (by decide) (fun c_79 => ?_) (fun c_79 => ?_)
          · refine lv_iconst (v := 0) hx hb dX4_canBeJoined_86 (by decide) ?_
            exact ro_zret C hr hlk rfl (bI_f (by simp [xJoin, c_5, c_18, c_51, c_70, c_79])) dX4_canBeJoined_87
          · refine lv_iconst (v := 1) hx hb dX4_canBeJoined_82 (by decide) ?_
            refine lv_goto (tgt := 87) hx hb dX4_canBeJoined_83 (by decide) ?_
            exact ro_zret C hr hlk rfl (bI_t (by simp [xJoin, c_5, c_18, c_51, c_70, c_79])) dX4_canBeJoined_87
    · refine lv_aload_n hx hb dX4_canBeJoined_21 rfl (lv_at hl 2 rfl) ?_
      refine gf_X4_208 C hR hb0 rfl dX4_canBeJoined_22 ?_
      refine lv_aload_n hx hb dX4_canBeJoined_25 rfl (lv_at hl 1 rfl) ?_
      refine gf_X4_208 C hR ha rfl dX4_canBeJoined_26 ?_
      refine lv_isub hx hb dX4_canBeJoined_29 ?_
      refine lv_bipush (v := 12) hx hb dX4_canBeJoined_30 (by decide) ?_
      refine lv_icmp_lt (tgt := 39) hx hb dX4_canBeJoined_32 (by decide) (fun c_32 => ?_) (fun c_32 => ?_)
      · refine lv_iconst (v := 0) hx hb dX4_canBeJoined_39 (by decide) ?_
        exact ro_zret C hr hlk rfl (bI_f (by simp [xJoin, c_5, c_18, c_32])) dX4_canBeJoined_40
      · refine lv_iconst (v := 1) hx hb dX4_canBeJoined_35 (by decide) ?_
        refine lv_goto (tgt := 40) hx hb dX4_canBeJoined_36 (by decide) ?_
        exact ro_zret C hr hlk rfl (bI_t (by simp [xJoin, c_5, c_18, c_32])) dX4_canBeJoined_40
  · have c_5 : ¬ (nBef n0 n1 = true) := bz0 h_2 c_5
    refine lv_iconst (v := 0) hx hb dX4_canBeJoined_8 (by decide) ?_
    exact ro_zret C hr hlk rfl (bI_f (by simp [xJoin, c_5])) dX4_canBeJoined_9

theorem cnt_mono (f : Nat → Bool) {a b : Nat} (h : a ≤ b) : cnt f a ≤ cnt f b := by
  induction b with
  | zero => rw [show a = 0 by omega]; exact Nat.le_refl _
  | succ b ih =>
    by_cases e : a = b + 1
    · rw [e]; exact Nat.le_refl _
    · have := ih (by omega)
      rw [cnt]
      omega
def xBm (E : Nat → Nat → Nat → Int32) (J : Nat → Nat → Nat) (i : Nat) : Bool := metB (E 9 0) 4 (E 9 1) (E 9 2) (E 1 i) (J 0 i) (E 2 i) (E 3 i)
def xHm (E : Nat → Nat → Nat → Int32) (J : Nat → Nat → Nat) (q c : Nat → Int32) (i : Nat) : Bool := pWin (E 5 i) (E 4 (J 3 i)) q c && metB (E 9 0) 4 (E 9 1) (E 9 2) (E 6 i) 4 (E 7 i) (E 8 i)
set_option maxHeartbeats 4000000 in
set_option maxRecDepth 100000 in
theorem c_X4_barsMet (l : Launch) (D : va_G) (cs : Nat → ClassId) (M : wM) (Z : Nat) (lab ad : Nat → Nat) (w : Nat → Int32) (E : Nat → Nat → Nat → Int32) (J : Nat → Nat → Nat) (nn nb nc np : Nat) (NA BA CA PA : Nat → Option Nat) (hC : CSx cs lab M Z ad w E J nn nb nc np NA BA CA PA) (nm nw : Nat) (hnm : w 8 = nI nm) (hnw : w 9 = nI nw) (hb9 : nb = nm + nw) (hb52 : nb ≤ 52) (en : Nat) (hen : en < 1000) : Met l yX4_barsMet (mw yX4_barsMet cX4_barsMet 4 (some .int)) { frames := 3, cells := 0, slots := 0, locals := 74 } (roP D cs M [.ref Z, .int (nI en)]) (vp_Si (fun r => r = nI (min (cnt (xBm E J) nb) en))) 0 0 noA := by
  refine ro_met rfl (Nat.le_of_ble_eq_true rfl) ?_
  intro p e s m below meth c ls C hR hr hlk hl
  have C : kx D cs p m c cX4_barsMet 4 s _ RX4 := C
  have hx := C.1.1
  have hb := C.1.2.1
  have hl : lv_has ls 4 [(0, .ref Z), (1, .int (nI en))] := hl
  obtain ⟨fx_t, fy_t, h1_t, h2_t, h3_t, h4_t, h5_t, h6_t⟩ := CSx.tr hC
  refine lv_iconst (v := 0) hx hb dX4_barsMet_0 (by decide) ?_
  refine lv_istore_n (lv' := [(2, .int 0), (0, .ref Z), (1, .int (nI en))]) hx hb dX4_barsMet_1 rfl hl (by decide) rfl (fun ls hl => ?_)
  refine lv_iconst (v := 0) hx hb dX4_barsMet_2 (by decide) ?_
  refine lv_istore_n (lv' := [(3, .int 0), (2, .int 0), (0, .ref Z), (1, .int (nI en))]) hx hb dX4_barsMet_3 rfl hl (by decide) rfl (fun ls hl => ?_)
  refine W.loop (σ := Nat × Nat × Array Slot) (fun ⟨i, n, ls⟩ => F0 m 4 ls []) (fun ⟨i, n, ls⟩ => (i ≤ nb) ∧ (n = cnt (xBm E J) i) ∧ (n ≤ en) ∧ lv_has ls 4 [(3, .int (nI i)), (2, .int (nI n)), (0, .ref Z), (1, .int (nI en))]) (fun ⟨i, n, ls⟩ => nb - i) ?_ (0, 0, _) ⟨by omega, rfl, by omega, lv_sub hl [0, 1, 2, 3] rfl⟩ rfl
  intro ⟨i, n, ls⟩ ⟨hi, hn, hne, hl⟩ ih_4
  show W _ _ _ _ _ _ _ _ _ _ _ _ _ _ _ (F0 m 4 ls [])
  have hl : lv_has ls 4 [(3, .int (nI i)), (2, .int (nI n)), (0, .ref Z), (1, .int (nI en))] := hl
  have hmono := cnt_mono (xBm E J) hi
  have hle := cnt_le (xBm E J) i
  refine lv_iload_n hx hb dX4_barsMet_4 rfl (lv_at hl 0 rfl) ?_
  refine lv_aload_n hx hb dX4_barsMet_5 rfl (lv_at hl 2 rfl) ?_
  refine gf_X4_69 C hR (CSx.z hC) rfl dX4_barsMet_6 ?_
  refine top_eq (y := nI nm) hnm ?_
  refine lv_aload_n hx hb dX4_barsMet_9 rfl (lv_at hl 2 rfl) ?_
  refine gf_X4_72 C hR (CSx.z hC) rfl dX4_barsMet_10 ?_
  refine top_eq (y := nI nw) hnw ?_
  refine lv_iadd hx hb dX4_barsMet_13 ?_
  refine top_eq (y := nI (nm + nw)) (tn_add rfl rfl) ?_
  refine lv_icmp_ge (tgt := 47) hx hb dX4_barsMet_14 (by decide) (fun c_14 => ?_) (fun c_14 => ?_)
  · have c_14 := cle_t (a := (nm + nw)) (b := i) c_14 (by omega) (by omega)
    refine lv_iload_n hx hb dX4_barsMet_47 rfl (lv_at hl 1 rfl) ?_
    exact ro_iret C hr hlk (by rw [show i = nb by omega] at hn; rw [show min (cnt (xBm E J) nb) en = n by omega]) dX4_barsMet_48
  · have c_14 := cle_f (a := (nm + nw)) (b := i) c_14 (by omega) (by omega)
    refine lv_iload_n hx hb dX4_barsMet_17 rfl (lv_at hl 1 rfl) ?_
    refine lv_iload_n hx hb dX4_barsMet_18 rfl (lv_at hl 3 rfl) ?_
    refine lv_icmp_ge (tgt := 47) hx hb dX4_barsMet_19 (by decide) (fun c_19 => ?_) (fun c_19 => ?_)
    · have c_19 := cle_t (a := en) (b := n) c_19 (by omega) (by omega)
      refine lv_iload_n hx hb dX4_barsMet_47 rfl (lv_at hl 1 rfl) ?_
      exact ro_iret C hr hlk (by rw [show min (cnt (xBm E J) nb) en = n by omega]) dX4_barsMet_48
    · have c_19 := cle_f (a := en) (b := n) c_19 (by omega) (by omega)
      refine lv_aload_n hx hb dX4_barsMet_22 rfl (lv_at hl 2 rfl) ?_
      refine gf_X4_41 C hR (CSx.z hC) rfl dX4_barsMet_23 ?_
      refine lv_aload_n hx hb dX4_barsMet_26 rfl (lv_at hl 2 rfl) ?_
      refine gf_X4_21 C hR (CSx.z hC) rfl dX4_barsMet_27 ?_
      refine lv_iload_n hx hb dX4_barsMet_30 rfl (lv_at hl 0 rfl) ?_
      obtain ⟨a_31, ga_31, gj_31, gf_31⟩ := CSx.bar hC i (by omega)
      obtain ⟨fx_31, fy_31, h1_31, h2_31, h3_31, h4_31, h5_31, h6_31⟩ := gf_31
      refine r_aaldN (k := i) C hR 4 (CSx.ba hC) rfl (by omega) (by decide) rfl ga_31 dX4_barsMet_31 ?_
      refine ro_goI (ro_V (As := [.ref a_31]) (rest := []) C hR st_X4_235 (c_X1_meets l D cs _ (ad 5) fx_t fy_t 4 (E 9 0) (E 9 1) (E 9 2) h1_t h2_t h3_t (by omega) a_31 fx_31 fy_31 (J 0 i) (E 1 i) (E 2 i) (E 3 i) h1_31 h2_31 h3_31 (by omega)) h1_t rfl rfl ⟨rfl, rfl, Nat.le_of_ble_eq_true rfl, Nat.le_of_ble_eq_true rfl⟩ rfl hl.1 rfl (Nat.le_of_ble_eq_true rfl) dX4_barsMet_32 ⟨Nat.le_of_ble_eq_true rfl, Nat.le_of_ble_eq_true rfl⟩) (fun r_32 h_32 => ?_)
      refine lv_if_eq (tgt := 41) hx hb dX4_barsMet_35 (by decide) (fun c_35 => ?_) (fun c_35 => ?_)
      · have c_35 : ¬ (metB (E 9 0) 4 (E 9 1) (E 9 2) (E 1 i) (J 0 i) (E 2 i) (E 3 i) = true) := bz0 h_32 c_35
        refine lv_iinc (v := nI (i + 1)) (lv' := [(3, .int (nI (i + 1))), (2, .int (nI n)), (0, .ref Z), (1, .int (nI en))]) hx hb dX4_barsMet_41 hl (k := 0) rfl (by exact tn_add rfl rfl) (by decide) rfl (fun ls hl => ?_)
        refine lv_goto (tgt := 4) hx hb dX4_barsMet_44 (by decide) ?_
        exact ih_4 ((i + 1), n, _) ⟨by omega, by rw [cnt, xBm, if_neg c_35, hn]; rfl, by omega, lv_sub hl [0, 1, 2, 3] rfl⟩ (by show nb - (i + 1) < nb - i; omega)
      · have c_35 : metB (E 9 0) 4 (E 9 1) (E 9 2) (E 1 i) (J 0 i) (E 2 i) (E 3 i) = true := bz1 h_32 c_35
        refine lv_iinc (v := nI (n + 1)) (lv' := [(2, .int (nI (n + 1))), (3, .int (nI i)), (0, .ref Z), (1, .int (nI en))]) hx hb dX4_barsMet_38 hl (k := 1) rfl (by exact tn_add rfl rfl) (by decide) rfl (fun ls hl => ?_)
        refine lv_iinc (v := nI (i + 1)) (lv' := [(3, .int (nI (i + 1))), (2, .int (nI (n + 1))), (0, .ref Z), (1, .int (nI en))]) hx hb dX4_barsMet_41 hl (k := 1) rfl (by exact tn_add rfl rfl) (by decide) rfl (fun ls hl => ?_)
        refine lv_goto (tgt := 4) hx hb dX4_barsMet_44 (by decide) ?_
        exact ih_4 ((i + 1), (n + 1), _) ⟨by omega, by rw [cnt, xBm, if_pos c_35, hn], by omega, lv_sub hl [0, 1, 2, 3] rfl⟩ (by show nb - (i + 1) < nb - i; omega)

set_option maxHeartbeats 4000000 in
set_option maxRecDepth 100000 in
theorem c_X4_hullsMet (l : Launch) (D : va_G) (cs : Nat → ClassId) (M : wM) (Z : Nat) (lab ad : Nat → Nat) (w : Nat → Int32) (E : Nat → Nat → Nat → Int32) (J : Nat → Nat → Nat) (nn nb nc np : Nat) (NA BA CA PA : Nat → Option Nat) (hC : CSx cs lab M Z ad w E J nn nb nc np NA BA CA PA) (hnp : w 11 = nI np) (hp80 : np ≤ 80) (a ca ha : Nat) (q0 c0 : Nat → Int32) (na nb1 : Nat) (hp : M a = some (parC q0 ca ha)) (hc : M ca = some (curC c0 na nb1)) (en : Nat) (hen : en < 1000) : Met l yX4_hullsMet (mw yX4_hullsMet cX4_hullsMet 5 (some .int)) { frames := 3, cells := 0, slots := 0, locals := 74 } (roP D cs M [.ref Z, .ref a, .int (nI en)]) (vp_Si (fun r => r = nI (min (cnt (xHm E J q0 c0) np) en))) 0 0 noA := by
  refine ro_met rfl (Nat.le_of_ble_eq_true rfl) ?_
  intro p e s m below meth c ls C hR hr hlk hl
  have C : kx D cs p m c cX4_hullsMet 5 s _ RX4 := C
  have hx := C.1.1
  have hb := C.1.2.1
  have hl : lv_has ls 5 [(0, .ref Z), (1, .ref a), (2, .int (nI en))] := hl
  obtain ⟨fx_t, fy_t, h1_t, h2_t, h3_t, h4_t, h5_t, h6_t⟩ := CSx.tr hC
  refine lv_iconst (v := 0) hx hb dX4_hullsMet_0 (by decide) ?_
  refine lv_istore_n (lv' := [(3, .int 0), (0, .ref Z), (1, .ref a), (2, .int (nI en))]) hx hb dX4_hullsMet_1 rfl hl (by decide) rfl (fun ls hl => ?_)
  refine lv_iconst (v := 0) hx hb dX4_hullsMet_2 (by decide) ?_
  refine lv_istore (lv' := [(4, .int 0), (3, .int 0), (0, .ref Z), (1, .ref a), (2, .int (nI en))]) hx hb dX4_hullsMet_3 hl (by decide) rfl (fun ls hl => ?_)
  refine W.loop (σ := Nat × Nat × Array Slot) (fun ⟨i, n, ls⟩ => F0 m 5 ls []) (fun ⟨i, n, ls⟩ => (i ≤ np) ∧ (n = cnt (xHm E J q0 c0) i) ∧ (n ≤ en) ∧ lv_has ls 5 [(4, .int (nI i)), (3, .int (nI n)), (0, .ref Z), (1, .ref a), (2, .int (nI en))]) (fun ⟨i, n, ls⟩ => np - i) ?_ (0, 0, _) ⟨by omega, rfl, by omega, lv_sub hl [0, 1, 2, 3, 4] rfl⟩ rfl
  intro ⟨i, n, ls⟩ ⟨hi, hn, hne, hl⟩ ih_5
  show W _ _ _ _ _ _ _ _ _ _ _ _ _ _ _ (F0 m 5 ls [])
  have hl : lv_has ls 5 [(4, .int (nI i)), (3, .int (nI n)), (0, .ref Z), (1, .ref a), (2, .int (nI en))] := hl
  have hmono := cnt_mono (xHm E J q0 c0) hi
  have hle := cnt_le (xHm E J q0 c0) i
  refine lv_iload hx hb dX4_hullsMet_5 (lv_at hl 0 rfl) ?_
  refine lv_aload_n hx hb dX4_hullsMet_7 rfl (lv_at hl 2 rfl) ?_
  refine gf_X4_86 C hR (CSx.z hC) rfl dX4_hullsMet_8 ?_
  refine top_eq (y := nI np) hnp ?_
  refine lv_icmp_ge (tgt := 62) hx hb dX4_hullsMet_11 (by decide) (fun c_11 => ?_) (fun c_11 => ?_)
  · have c_11 := cle_t (a := np) (b := i) c_11 (by omega) (by omega)
    refine lv_iload_n hx hb dX4_hullsMet_62 rfl (lv_at hl 1 rfl) ?_
    exact ro_iret C hr hlk (by rw [show i = np by omega] at hn; rw [show min (cnt (xHm E J q0 c0) np) en = n by omega]) dX4_hullsMet_63
  · have c_11 := cle_f (a := np) (b := i) c_11 (by omega) (by omega)
    refine lv_iload_n hx hb dX4_hullsMet_14 rfl (lv_at hl 1 rfl) ?_
    refine lv_iload_n hx hb dX4_hullsMet_15 rfl (lv_at hl 4 rfl) ?_
    refine lv_icmp_ge (tgt := 62) hx hb dX4_hullsMet_16 (by decide) (fun c_16 => ?_) (fun c_16 => ?_)
    · have c_16 := cle_t (a := en) (b := n) c_16 (by omega) (by omega)
      refine lv_iload_n hx hb dX4_hullsMet_62 rfl (lv_at hl 1 rfl) ?_
      exact ro_iret C hr hlk (by rw [show min (cnt (xHm E J q0 c0) np) en = n by omega]) dX4_hullsMet_63
    · have c_16 := cle_f (a := en) (b := n) c_16 (by omega) (by omega)
      refine lv_aload_n hx hb dX4_hullsMet_19 rfl (lv_at hl 2 rfl) ?_
      refine gf_X4_33 C hR (CSx.z hC) rfl dX4_hullsMet_20 ?_
      refine lv_iload hx hb dX4_hullsMet_23 (lv_at hl 0 rfl) ?_
      obtain ⟨a_25, c_p25, h_p25, b1_p25, b2_p25, ga_25, gp_25, gl_25, gc_25, gh_25⟩ := CSx.part hC i (by omega)
      obtain ⟨fx_h25, fy_h25, h1_h25, h2_h25, h3_h25, h4_h25, h5_h25, h6_h25⟩ := gh_25
      refine r_aaldN (k := i) C hR 6 (CSx.pa hC) rfl (by omega) (by decide) rfl ga_25 dX4_hullsMet_25 ?_
      refine lv_aload_n hx hb dX4_hullsMet_26 rfl (lv_at hl 3 rfl) ?_
      refine ro_goI (ro_V (As := [.ref a]) (rest := []) C hR st_X4_165 (c_X3_liesWithin l D cs _ a_25 c_p25 h_p25 (E 5 i) (E 4 (J 3 i)) b1_p25 b2_p25 gp_25 gc_25 a ca ha q0 c0 na nb1 hp hc) gp_25 rfl rfl ⟨rfl, rfl, Nat.le_of_ble_eq_true rfl, Nat.le_of_ble_eq_true rfl⟩ rfl hl.1 rfl (Nat.le_of_ble_eq_true rfl) dX4_hullsMet_27 ⟨Nat.le_of_ble_eq_true rfl, Nat.le_of_ble_eq_true rfl⟩) (fun r_27 h_27 => ?_)
      refine lv_if_eq (tgt := 56) hx hb dX4_hullsMet_30 (by decide) (fun c_30 => ?_) (fun c_30 => ?_)
      · have c_30 : ¬ (pWin (E 5 i) (E 4 (J 3 i)) q0 c0 = true) := bz0 h_27 c_30
        refine lv_iinc (v := nI (i + 1)) (lv' := [(4, .int (nI (i + 1))), (3, .int (nI n)), (0, .ref Z), (1, .ref a), (2, .int (nI en))]) hx hb dX4_hullsMet_56 hl (k := 0) rfl (by exact tn_add rfl rfl) (by decide) rfl (fun ls hl => ?_)
        refine lv_goto (tgt := 5) hx hb dX4_hullsMet_59 (by decide) ?_
        exact ih_5 ((i + 1), n, _) ⟨by omega, by rw [cnt, xHm, if_neg (by simp [c_30]), hn]; rfl, by omega, lv_sub hl [0, 1, 2, 3, 4] rfl⟩ (by show np - (i + 1) < np - i; omega)
      · have c_30 : pWin (E 5 i) (E 4 (J 3 i)) q0 c0 = true := bz1 h_27 c_30
        refine lv_aload_n hx hb dX4_hullsMet_33 rfl (lv_at hl 2 rfl) ?_
        refine gf_X4_41 C hR (CSx.z hC) rfl dX4_hullsMet_34 ?_
        refine lv_aload_n hx hb dX4_hullsMet_37 rfl (lv_at hl 2 rfl) ?_
        refine gf_X4_33 C hR (CSx.z hC) rfl dX4_hullsMet_38 ?_
        refine lv_iload hx hb dX4_hullsMet_41 (lv_at hl 0 rfl) ?_
        obtain ⟨a_43, c_p43, h_p43, b1_p43, b2_p43, ga_43, gp_43, gl_43, gc_43, gh_43⟩ := CSx.part hC i (by omega)
        obtain ⟨fx_h43, fy_h43, h1_h43, h2_h43, h3_h43, h4_h43, h5_h43, h6_h43⟩ := gh_43
        refine r_aaldN (k := i) C hR 6 (CSx.pa hC) rfl (by omega) (by decide) rfl ga_43 dX4_hullsMet_43 ?_
        refine gf_X4_139 C hR gp_43 rfl dX4_hullsMet_44 ?_
        refine ro_goI (ro_V (As := [.ref h_p43]) (rest := []) C hR st_X4_235 (c_X1_meets l D cs _ (ad 5) fx_t fy_t 4 (E 9 0) (E 9 1) (E 9 2) h1_t h2_t h3_t (by omega) h_p43 fx_h43 fy_h43 4 (E 6 i) (E 7 i) (E 8 i) h1_h43 h2_h43 h3_h43 (by omega)) h1_t rfl rfl ⟨rfl, rfl, Nat.le_of_ble_eq_true rfl, Nat.le_of_ble_eq_true rfl⟩ rfl hl.1 rfl (Nat.le_of_ble_eq_true rfl) dX4_hullsMet_47 ⟨Nat.le_of_ble_eq_true rfl, Nat.le_of_ble_eq_true rfl⟩) (fun r_47 h_47 => ?_)
        refine lv_if_eq (tgt := 56) hx hb dX4_hullsMet_50 (by decide) (fun c_50 => ?_) (fun c_50 => ?_)
        · have c_50 : ¬ (metB (E 9 0) 4 (E 9 1) (E 9 2) (E 6 i) 4 (E 7 i) (E 8 i) = true) := bz0 h_47 c_50
          refine lv_iinc (v := nI (i + 1)) (lv' := [(4, .int (nI (i + 1))), (3, .int (nI n)), (0, .ref Z), (1, .ref a), (2, .int (nI en))]) hx hb dX4_hullsMet_56 hl (k := 0) rfl (by exact tn_add rfl rfl) (by decide) rfl (fun ls hl => ?_)
          refine lv_goto (tgt := 5) hx hb dX4_hullsMet_59 (by decide) ?_
          exact ih_5 ((i + 1), n, _) ⟨by omega, by rw [cnt, xHm, c_30, if_neg (by simpa using c_50), hn]; rfl, by omega, lv_sub hl [0, 1, 2, 3, 4] rfl⟩ (by show np - (i + 1) < np - i; omega)
        · have c_50 : metB (E 9 0) 4 (E 9 1) (E 9 2) (E 6 i) 4 (E 7 i) (E 8 i) = true := bz1 h_47 c_50
          refine lv_iinc (v := nI (n + 1)) (lv' := [(3, .int (nI (n + 1))), (4, .int (nI i)), (0, .ref Z), (1, .ref a), (2, .int (nI en))]) hx hb dX4_hullsMet_53 hl (k := 1) rfl (by exact tn_add rfl rfl) (by decide) rfl (fun ls hl => ?_)
          refine lv_iinc (v := nI (i + 1)) (lv' := [(4, .int (nI (i + 1))), (3, .int (nI (n + 1))), (0, .ref Z), (1, .ref a), (2, .int (nI en))]) hx hb dX4_hullsMet_56 hl (k := 1) rfl (by exact tn_add rfl rfl) (by decide) rfl (fun ls hl => ?_)
          refine lv_goto (tgt := 5) hx hb dX4_hullsMet_59 (by decide) ?_
          exact ih_5 ((i + 1), (n + 1), _) ⟨by omega, by rw [cnt, xHm, c_30, c_50, hn]; rfl, by omega, lv_sub hl [0, 1, 2, 3, 4] rfl⟩ (by show np - (i + 1) < np - i; omega)

def xCo (E : Nat → Nat → Nat → Int32) (i : Nat) : Bool := decide (¬ E 5 i 9 = 0)
set_option maxHeartbeats 4000000 in
set_option maxRecDepth 100000 in
theorem c_X4_collidingParts (l : Launch) (D : va_G) (cs : Nat → ClassId) (M : wM) (Z : Nat) (lab ad : Nat → Nat) (w : Nat → Int32) (E : Nat → Nat → Nat → Int32) (J : Nat → Nat → Nat) (nn nb nc np : Nat) (NA BA CA PA : Nat → Option Nat) (hC : CSx cs lab M Z ad w E J nn nb nc np NA BA CA PA) (hnp : w 11 = nI np) (hp80 : np ≤ 80) : Met l yX4_collidingParts (mw yX4_collidingParts cX4_collidingParts 3 (some .int)) { frames := 0, cells := 0, slots := 0, locals := 0 } (roP D cs M [.ref Z]) (vp_Si (fun r => r = nI (cnt (xCo E) np))) 0 0 noA := by
  refine ro_met rfl (Nat.le_of_ble_eq_true rfl) ?_
  intro p e s m below meth c ls C hR hr hlk hl
  have C : kx D cs p m c cX4_collidingParts 3 s _ RX4 := C
  have hx := C.1.1
  have hb := C.1.2.1
  have hl : lv_has ls 3 [(0, .ref Z)] := hl
  refine lv_iconst (v := 0) hx hb dX4_collidingParts_0 (by decide) ?_
  refine lv_istore_n (lv' := [(1, .int 0), (0, .ref Z)]) hx hb dX4_collidingParts_1 rfl hl (by decide) rfl (fun ls hl => ?_)
  refine lv_iconst (v := 0) hx hb dX4_collidingParts_2 (by decide) ?_
  refine lv_istore_n (lv' := [(2, .int 0), (1, .int 0), (0, .ref Z)]) hx hb dX4_collidingParts_3 rfl hl (by decide) rfl (fun ls hl => ?_)
  refine W.loop (σ := Nat × Nat × Array Slot) (fun ⟨i, n, ls⟩ => F0 m 4 ls []) (fun ⟨i, n, ls⟩ => (i ≤ np) ∧ (n = cnt (xCo E) i) ∧ lv_has ls 3 [(2, .int (nI i)), (1, .int (nI n)), (0, .ref Z)]) (fun ⟨i, n, ls⟩ => np - i) ?_ (0, 0, _) ⟨by omega, rfl, lv_sub hl [0, 1, 2] rfl⟩ rfl
  intro ⟨i, n, ls⟩ ⟨hi, hn, hl⟩ ih_4
  show W _ _ _ _ _ _ _ _ _ _ _ _ _ _ _ (F0 m 4 ls [])
  have hl : lv_has ls 3 [(2, .int (nI i)), (1, .int (nI n)), (0, .ref Z)] := hl
  refine lv_iload_n hx hb dX4_collidingParts_4 rfl (lv_at hl 0 rfl) ?_
  refine lv_aload_n hx hb dX4_collidingParts_5 rfl (lv_at hl 2 rfl) ?_
  refine gf_X4_86 C hR (CSx.z hC) rfl dX4_collidingParts_6 ?_
  refine top_eq (y := nI np) hnp ?_
  refine lv_icmp_ge (tgt := 33) hx hb dX4_collidingParts_9 (by decide) (fun c_9 => ?_) (fun c_9 => ?_)
  · have c_9 := cle_t (a := np) (b := i) c_9 (by omega) (by omega)
    refine lv_iload_n hx hb dX4_collidingParts_33 rfl (lv_at hl 1 rfl) ?_
    exact ro_iret C hr hlk (by rw [hn, show i = np by omega]) dX4_collidingParts_34
  · have c_9 := cle_f (a := np) (b := i) c_9 (by omega) (by omega)
    refine lv_aload_n hx hb dX4_collidingParts_12 rfl (lv_at hl 2 rfl) ?_
    refine gf_X4_33 C hR (CSx.z hC) rfl dX4_collidingParts_13 ?_
    refine lv_iload_n hx hb dX4_collidingParts_16 rfl (lv_at hl 0 rfl) ?_
    obtain ⟨a_17, c_p17, h_p17, b1_p17, b2_p17, ga_17, gp_17, gl_17, gc_17, gh_17⟩ := CSx.part hC i (by omega)
    obtain ⟨fx_h17, fy_h17, h1_h17, h2_h17, h3_h17, h4_h17, h5_h17, h6_h17⟩ := gh_17
    refine r_aaldN (k := i) C hR 6 (CSx.pa hC) rfl (by omega) (by decide) rfl ga_17 dX4_collidingParts_17 ?_
    refine gf_X4_130 C hR gp_17 rfl dX4_collidingParts_18 ?_
    refine lv_if_eq (tgt := 27) hx hb dX4_collidingParts_21 (by decide) (fun c_21 => ?_) (fun c_21 => ?_)
    · refine lv_iinc (v := nI (i + 1)) (lv' := [(2, .int (nI (i + 1))), (1, .int (nI n)), (0, .ref Z)]) hx hb dX4_collidingParts_27 hl (k := 0) rfl (by exact tn_add rfl rfl) (by decide) rfl (fun ls hl => ?_)
      refine lv_goto (tgt := 4) hx hb dX4_collidingParts_30 (by decide) ?_
      exact ih_4 ((i + 1), n, _) ⟨by omega, by rw [cnt, hn]; simp [xCo, c_21], lv_sub hl [0, 1, 2] rfl⟩ (by show np - (i + 1) < np - i; omega)
    · refine lv_iinc (v := nI (n + 1)) (lv' := [(1, .int (nI (n + 1))), (2, .int (nI i)), (0, .ref Z)]) hx hb dX4_collidingParts_24 hl (k := 1) rfl (by exact tn_add rfl rfl) (by decide) rfl (fun ls hl => ?_)
      refine lv_iinc (v := nI (i + 1)) (lv' := [(2, .int (nI (i + 1))), (1, .int (nI (n + 1))), (0, .ref Z)]) hx hb dX4_collidingParts_27 hl (k := 1) rfl (by exact tn_add rfl rfl) (by decide) rfl (fun ls hl => ?_)
      refine lv_goto (tgt := 4) hx hb dX4_collidingParts_30 (by decide) ?_
      exact ih_4 ((i + 1), (n + 1), _) ⟨by omega, by rw [cnt, hn]; simp [xCo, c_21], lv_sub hl [0, 1, 2] rfl⟩ (by show np - (i + 1) < np - i; omega)


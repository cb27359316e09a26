/-- the cells of the class's objects -/
def noteC (n : Nat → Int32) : va_E := .inr (2, [.int (n 0), .int (n 1), .int (n 2), .int (n 3), .int (n 4)])
def curC (c : Nat → Int32) (na nb : Nat) : va_E := .inr (0, [.int (c 0), .ref na, .ref nb, .int (c 3), .int (c 4), .int (c 5)])
def parC (q : Nat → Int32) (ca ha : Nat) : va_E := .inr (3, [.ref ca, .int (q 1), .int (q 2), .int (q 3), .int (q 4), .int (q 5), .int (q 6), .ref ha, .int (q 8), .int (q 9)])
def figC (f : Nat → Int32) (xa ya : Nat) : va_E := .inr (1, [.int (f 0), .ref xa, .ref ya, .int (f 3), .int (f 4), .int (f 5), .int (f 6)])
def arC (cs : Nat → ClassId) (n : Nat) (g : Nat → Int32) : va_E := .inl (cs 0, n, .inl g)
def nBef (a b : Nat → Int32) : Bool := decide (a 1 < b 1 ∨ (a 1 = b 1 ∧ ¬ b 2 ≤ a 2))
def nChord (a b : Nat → Int32) : Bool := decide (a 1 = b 1 ∧ a 2 = b 2)
set_option maxHeartbeats 4000000 in
set_option maxRecDepth 100000 in
theorem c_X2_isBefore (l : Launch) (D : va_G) (cs : Nat → ClassId) (M : wM) (a b : Nat) (n0 n1 : Nat → Int32) (ha : M a = some (noteC n0)) (hb0 : M b = some (noteC n1)) : Met l yX2_isBefore (mw yX2_isBefore cX2_isBefore 2 (some .boolean)) { frames := 0, cells := 0, slots := 0, locals := 0 } (roP D cs M [.ref a, .ref b]) (vp_Si (fun r => r = bI (nBef n0 n1 = true))) 0 0 noA := by
  refine ro_met rfl (Nat.le_of_ble_eq_true rfl) ?_
  intro p e s m below meth c ls C hR hr hlk hl
  have C : kx D cs p m c cX2_isBefore 2 s _ RX2 := C
  have hx := C.1.1
  have hb := C.1.2.1
  have hl : lv_has ls 2 [(0, .ref a), (1, .ref b)] := hl
  refine lv_aload_n hx hb dX2_isBefore_0 rfl (lv_at hl 0 rfl) ?_
  refine gf_X2_15 C hR ha rfl dX2_isBefore_1 ?_
  refine lv_aload_n hx hb dX2_isBefore_4 rfl (lv_at hl 1 rfl) ?_
  refine gf_X2_15 C hR hb0 rfl dX2_isBefore_5 ?_
  refine lv_icmp_lt (tgt := 33) hx hb dX2_isBefore_8 (by decide) (fun c_8 => ?_) (fun c_8 => ?_)
  · refine lv_iconst (v := 1) hx hb dX2_isBefore_33 (by decide) ?_
    refine lv_goto (tgt := 38) hx hb dX2_isBefore_34 (by decide) ?_
    exact ro_zret C hr hlk rfl (bI_t (by simp [nBef, c_8])) dX2_isBefore_38
  · refine lv_aload_n hx hb dX2_isBefore_11 rfl (lv_at hl 0 rfl) ?_
    refine gf_X2_15 C hR ha rfl dX2_isBefore_12 ?_
    refine lv_aload_n hx hb dX2_isBefore_15 rfl (lv_at hl 1 rfl) ?_
    refine gf_X2_15 C hR hb0 rfl dX2_isBefore_16 ?_
    refine lv_icmp_ne (tgt := 37) hx hb dX2_isBefore_19 (by decide) (fun c_19 => ?_) (fun c_19 => ?_)
    · refine lv_iconst (v := 0) hx hb dX2_isBefore_37 (by decide) ?_
      exact ro_zret C hr hlk rfl (bI_f (by simp [nBef, c_8, c_19])) dX2_isBefore_38
    · refine lv_aload_n hx hb dX2_isBefore_22 rfl (lv_at hl 0 rfl) ?_
      refine gf_X2_18 C hR ha rfl dX2_isBefore_23 ?_
      refine lv_aload_n hx hb dX2_isBefore_26 rfl (lv_at hl 1 rfl) ?_
      refine gf_X2_18 C hR hb0 rfl dX2_isBefore_27 ?_
      refine lv_icmp_ge (tgt := 37) hx hb dX2_isBefore_30 (by decide) (fun c_30 => ?_) (fun c_30 => ?_)
      · refine lv_iconst (v := 0) hx hb dX2_isBefore_37 (by decide) ?_
        exact ro_zret C hr hlk rfl (bI_f (by simp [nBef, c_8, c_19, c_30])) dX2_isBefore_38
      · refine lv_iconst (v := 1) hx hb dX2_isBefore_33 (by decide) ?_
        refine lv_goto (tgt := 38) hx hb dX2_isBefore_34 (by decide) ?_
        exact ro_zret C hr hlk rfl (bI_t (by simp [nBef, c_8, c_19, c_30])) dX2_isBefore_38

set_option maxHeartbeats 4000000 in
set_option maxRecDepth 100000 in
theorem c_X2_isInChordOf (l : Launch) (D : va_G) (cs : Nat → ClassId) (M : wM) (a b : Nat) (n0 n1 : Nat → Int32) (ha : M a = some (noteC n0)) (hb0 : M b = some (noteC n1)) : Met l yX2_isInChordOf (mw yX2_isInChordOf cX2_isInChordOf 2 (some .boolean)) { frames := 0, cells := 0, slots := 0, locals := 0 } (roP D cs M [.ref a, .ref b]) (vp_Si (fun r => r = bI (nChord n0 n1 = true))) 0 0 noA := by
  refine ro_met rfl (Nat.le_of_ble_eq_true rfl) ?_
  intro p e s m below meth c ls C hR hr hlk hl
  have C : kx D cs p m c cX2_isInChordOf 2 s _ RX2 := C
  have hx := C.1.1
  have hb := C.1.2.1
  have hl : lv_has ls 2 [(0, .ref a), (1, .ref b)] := hl
  refine lv_aload_n hx hb dX2_isInChordOf_0 rfl (lv_at hl 0 rfl) ?_
  refine gf_X2_15 C hR ha rfl dX2_isInChordOf_1 ?_
  refine lv_aload_n hx hb dX2_isInChordOf_4 rfl (lv_at hl 1 rfl) ?_
  refine gf_X2_15 C hR hb0 rfl dX2_isInChordOf_5 ?_
  refine lv_icmp_ne (tgt := 26) hx hb dX2_isInChordOf_8 (by decide) (fun c_8 => ?_) (fun c_8 => ?_)
  · refine lv_iconst (v := 0) hx hb dX2_isInChordOf_26 (by decide) ?_
    exact ro_zret C hr hlk rfl (bI_f (by simp [nChord, c_8])) dX2_isInChordOf_27
  · refine lv_aload_n hx hb dX2_isInChordOf_11 rfl (lv_at hl 0 rfl) ?_
    refine gf_X2_18 C hR ha rfl dX2_isInChordOf_12 ?_
    refine lv_aload_n hx hb dX2_isInChordOf_15 rfl (lv_at hl 1 rfl) ?_
    refine gf_X2_18 C hR hb0 rfl dX2_isInChordOf_16 ?_
    refine lv_icmp_ne (tgt := 26) hx hb dX2_isInChordOf_19 (by decide) (fun c_19 => ?_) (fun c_19 => ?_)
    · refine lv_iconst (v := 0) hx hb dX2_isInChordOf_26 (by decide) ?_
      exact ro_zret C hr hlk rfl (bI_f (by simp [nChord, c_8, c_19])) dX2_isInChordOf_27
    · refine lv_iconst (v := 1) hx hb dX2_isInChordOf_22 (by decide) ?_
      refine lv_goto (tgt := 27) hx hb dX2_isInChordOf_23 (by decide) ?_
      exact ro_zret C hr hlk rfl (bI_t (by simp [nChord, c_8, c_19])) dX2_isInChordOf_27

def nStem (n : Nat → Int32) : Int32 := if n 4 = 0 then -1 else 1
set_option maxHeartbeats 4000000 in
set_option maxRecDepth 100000 in
theorem c_X2_stemSide (l : Launch) (D : va_G) (cs : Nat → ClassId) (M : wM) (a : Nat) (n0 : Nat → Int32) (ha : M a = some (noteC n0)) : Met l yX2_stemSide (mw yX2_stemSide cX2_stemSide 1 (some .int)) { frames := 0, cells := 0, slots := 0, locals := 0 } (roP D cs M [.ref a]) (vp_Si (fun r => r = nStem n0)) 0 0 noA := by
  refine ro_met rfl (Nat.le_of_ble_eq_true rfl) ?_
  intro p e s m below meth c ls C hR hr hlk hl
  have C : kx D cs p m c cX2_stemSide 1 s _ RX2 := C
  have hx := C.1.1
  have hb := C.1.2.1
  have hl : lv_has ls 1 [(0, .ref a)] := hl
  refine lv_aload_n hx hb dX2_stemSide_0 rfl (lv_at hl 0 rfl) ?_
  refine gf_X2_24 C hR ha rfl dX2_stemSide_1 ?_
  refine lv_if_eq (tgt := 11) hx hb dX2_stemSide_4 (by decide) (fun c_4 => ?_) (fun c_4 => ?_)
  · refine lv_iconst (v := (-1)) hx hb dX2_stemSide_11 (by decide) ?_
    exact ro_iret C hr hlk (by simp [nStem, c_4]) dX2_stemSide_12
  · refine lv_iconst (v := 1) hx hb dX2_stemSide_7 (by decide) ?_
    refine lv_goto (tgt := 12) hx hb dX2_stemSide_8 (by decide) ?_
    exact ro_iret C hr hlk (by simp [nStem, c_4]) dX2_stemSide_12

def cPc (n0 n1 : Nat → Int32) : Int32 := if n0 1 = n1 1 then 1 else 2
def cFx (c0 n0 : Nat → Int32) : Int32 := if c0 3 = 0 then n0 2 else n0 2 + 3
def cSx (c0 n1 : Nat → Int32) : Int32 := if c0 3 = 0 then n1 2 else n1 2 - 3
def cEh (c0 n : Nat → Int32) : Int32 := if c0 3 = 0 then n 3 + (4 + (if nStem n = c0 4 then 24 else 0)) * c0 4 else n 3 + 2 * c0 4
set_option maxHeartbeats 4000000 in
set_option maxRecDepth 100000 in
theorem c_X0_partCount (l : Launch) (D : va_G) (cs : Nat → ClassId) (M : wM) (a na nb : Nat) (c0 n0 n1 : Nat → Int32) (ha : M a = some (curC c0 na nb)) (hna : M na = some (noteC n0)) (hnb : M nb = some (noteC n1)) : Met l yX0_partCount (mw yX0_partCount cX0_partCount 1 (some .int)) { frames := 0, cells := 0, slots := 0, locals := 0 } (roP D cs M [.ref a]) (vp_Si (fun r => r = cPc n0 n1)) 0 0 noA := by
  refine ro_met rfl (Nat.le_of_ble_eq_true rfl) ?_
  intro p e s m below meth c ls C hR hr hlk hl
  have C : kx D cs p m c cX0_partCount 1 s _ RX0 := C
  have hx := C.1.1
  have hb := C.1.2.1
  have hl : lv_has ls 1 [(0, .ref a)] := hl
  refine lv_aload_n hx hb dX0_partCount_0 rfl (lv_at hl 0 rfl) ?_
  refine gf_X0_13 C hR ha rfl dX0_partCount_1 ?_
  refine gf_X0_30 C hR hna rfl dX0_partCount_4 ?_
  refine lv_aload_n hx hb dX0_partCount_7 rfl (lv_at hl 0 rfl) ?_
  refine gf_X0_17 C hR ha rfl dX0_partCount_8 ?_
  refine gf_X0_30 C hR hnb rfl dX0_partCount_11 ?_
  refine lv_icmp_ne (tgt := 21) hx hb dX0_partCount_14 (by decide) (fun c_14 => ?_) (fun c_14 => ?_)
  · refine lv_iconst (v := 2) hx hb dX0_partCount_21 (by decide) ?_
    exact ro_iret C hr hlk (by simp [cPc, c_14]) dX0_partCount_22
  · refine lv_iconst (v := 1) hx hb dX0_partCount_17 (by decide) ?_
    refine lv_goto (tgt := 22) hx hb dX0_partCount_18 (by decide) ?_
    exact ro_iret C hr hlk (by simp [cPc, c_14]) dX0_partCount_22

set_option maxHeartbeats 4000000 in
set_option maxRecDepth 100000 in
theorem c_X0_firstX (l : Launch) (D : va_G) (cs : Nat → ClassId) (M : wM) (a na nb : Nat) (c0 n0 n1 : Nat → Int32) (ha : M a = some (curC c0 na nb)) (hna : M na = some (noteC n0)) (hnb : M nb = some (noteC n1)) : Met l yX0_firstX (mw yX0_firstX cX0_firstX 1 (some .int)) { frames := 0, cells := 0, slots := 0, locals := 0 } (roP D cs M [.ref a]) (vp_Si (fun r => r = cFx c0 n0)) 0 0 noA := by
  refine ro_met rfl (Nat.le_of_ble_eq_true rfl) ?_
  intro p e s m below meth c ls C hR hr hlk hl
  have C : kx D cs p m c cX0_firstX 1 s _ RX0 := C
  have hx := C.1.1
  have hb := C.1.2.1
  have hl : lv_has ls 1 [(0, .ref a)] := hl
  refine lv_aload_n hx hb dX0_firstX_0 rfl (lv_at hl 0 rfl) ?_
  refine gf_X0_20 C hR ha rfl dX0_firstX_1 ?_
  refine lv_if_eq (tgt := 19) hx hb dX0_firstX_4 (by decide) (fun c_4 => ?_) (fun c_4 => ?_)
  · refine lv_aload_n hx hb dX0_firstX_19 rfl (lv_at hl 0 rfl) ?_
    refine gf_X0_13 C hR ha rfl dX0_firstX_20 ?_
    refine gf_X0_35 C hR hna rfl dX0_firstX_23 ?_
    exact ro_iret C hr hlk (by simp [cFx, c_4]) dX0_firstX_26
  · refine lv_aload_n hx hb dX0_firstX_7 rfl (lv_at hl 0 rfl) ?_
    refine gf_X0_13 C hR ha rfl dX0_firstX_8 ?_
    refine gf_X0_35 C hR hna rfl dX0_firstX_11 ?_
    refine lv_iconst (v := 3) hx hb dX0_firstX_14 (by decide) ?_
    refine lv_iadd hx hb dX0_firstX_15 ?_
    refine lv_goto (tgt := 26) hx hb dX0_firstX_16 (by decide) ?_
    exact ro_iret C hr hlk (by simp [cFx, c_4]) dX0_firstX_26

set_option maxHeartbeats 4000000 in
set_option maxRecDepth 100000 in
theorem c_X0_secondX (l : Launch) (D : va_G) (cs : Nat → ClassId) (M : wM) (a na nb : Nat) (c0 n0 n1 : Nat → Int32) (ha : M a = some (curC c0 na nb)) (hna : M na = some (noteC n0)) (hnb : M nb = some (noteC n1)) : Met l yX0_secondX (mw yX0_secondX cX0_secondX 1 (some .int)) { frames := 0, cells := 0, slots := 0, locals := 0 } (roP D cs M [.ref a]) (vp_Si (fun r => r = cSx c0 n1)) 0 0 noA := by
  refine ro_met rfl (Nat.le_of_ble_eq_true rfl) ?_
  intro p e s m below meth c ls C hR hr hlk hl
  have C : kx D cs p m c cX0_secondX 1 s _ RX0 := C
  have hx := C.1.1
  have hb := C.1.2.1
  have hl : lv_has ls 1 [(0, .ref a)] := hl
  refine lv_aload_n hx hb dX0_secondX_0 rfl (lv_at hl 0 rfl) ?_
  refine gf_X0_20 C hR ha rfl dX0_secondX_1 ?_
  refine lv_if_eq (tgt := 19) hx hb dX0_secondX_4 (by decide) (fun c_4 => ?_) (fun c_4 => ?_)
  · refine lv_aload_n hx hb dX0_secondX_19 rfl (lv_at hl 0 rfl) ?_
    refine gf_X0_17 C hR ha rfl dX0_secondX_20 ?_
    refine gf_X0_35 C hR hnb rfl dX0_secondX_23 ?_
    exact ro_iret C hr hlk (by simp [cSx, c_4]) dX0_secondX_26
  · refine lv_aload_n hx hb dX0_secondX_7 rfl (lv_at hl 0 rfl) ?_
    refine gf_X0_17 C hR ha rfl dX0_secondX_8 ?_
    refine gf_X0_35 C hR hnb rfl dX0_secondX_11 ?_
    refine lv_iconst (v := 3) hx hb dX0_secondX_14 (by decide) ?_
    refine lv_isub hx hb dX0_secondX_15 ?_
    refine lv_goto (tgt := 26) hx hb dX0_secondX_16 (by decide) ?_
    exact ro_iret C hr hlk (by simp [cSx, c_4]) dX0_secondX_26

set_option maxHeartbeats 4000000 in
set_option maxRecDepth 100000 in
theorem c_X0_endHeight (l : Launch) (D : va_G) (cs : Nat → ClassId) (M : wM) (a na nb b : Nat) (c0 n0 : Nat → Int32) (ha : M a = some (curC c0 na nb)) (hb0 : M b = some (noteC n0)) : Met l yX0_endHeight (mw yX0_endHeight cX0_endHeight 3 (some .int)) { frames := 1, cells := 0, slots := 0, locals := 20 } (roP D cs M [.ref a, .ref b]) (vp_Si (fun r => r = cEh c0 n0)) 0 0 noA := by
  refine ro_met rfl (Nat.le_of_ble_eq_true rfl) ?_
  intro p e s m below meth c ls C hR hr hlk hl
  have C : kx D cs p m c cX0_endHeight 3 s _ RX0 := C
  have hx := C.1.1
  have hb := C.1.2.1
  have hl : lv_has ls 3 [(0, .ref a), (1, .ref b)] := hl
  refine lv_aload_n hx hb dX0_endHeight_0 rfl (lv_at hl 0 rfl) ?_
  refine gf_X0_20 C hR ha rfl dX0_endHeight_1 ?_
  refine lv_if_eq (tgt := 19) hx hb dX0_endHeight_4 (by decide) (fun c_4 => ?_) (fun c_4 => ?_)
  · refine W.cut (fun z => z = if nStem n0 = c0 4 then 24 else 0) (fun z => F0 m 36 ls (.int z :: [])) (fun z_36 hz_36 => ?_) (fun J_36 => ?_)
    · refine lv_istore_n (lv' := [(2, .int z_36), (0, .ref a), (1, .ref b)]) hx hb dX0_endHeight_36 rfl hl (by decide) rfl (fun ls hl => ?_)
      refine lv_aload_n hx hb dX0_endHeight_37 rfl (lv_at hl 2 rfl) ?_
      refine gf_X0_38 C hR hb0 rfl dX0_endHeight_38 ?_
      refine lv_iconst (v := 4) hx hb dX0_endHeight_41 (by decide) ?_
      refine lv_iload_n hx hb dX0_endHeight_42 rfl (lv_at hl 0 rfl) ?_
      refine lv_iadd hx hb dX0_endHeight_43 ?_
      refine lv_aload_n hx hb dX0_endHeight_44 rfl (lv_at hl 1 rfl) ?_
      refine gf_X0_24 C hR ha rfl dX0_endHeight_45 ?_
      refine lv_imul hx hb dX0_endHeight_48 ?_
      refine lv_iadd hx hb dX0_endHeight_49 ?_
      exact ro_iret C hr hlk (by simp [cEh, c_4, hz_36]) dX0_endHeight_50
    · refine lv_aload_n hx hb dX0_endHeight_19 rfl (lv_at hl 1 rfl) ?_
      refine ro_goI (ro_V (As := []) (rest := []) C hR st_X0_41 (c_X2_stemSide l D cs _ b n0 hb0) hb0 rfl rfl ⟨rfl, rfl, Nat.le_of_ble_eq_true rfl, Nat.le_of_ble_eq_true rfl⟩ rfl hl.1 rfl (Nat.le_of_ble_eq_true rfl) dX0_endHeight_20 ⟨Nat.le_of_ble_eq_true rfl, Nat.le_of_ble_eq_true rfl⟩) (fun r_20 h_20 => ?_)
      refine lv_aload_n hx hb dX0_endHeight_23 rfl (lv_at hl 0 rfl) ?_
      refine gf_X0_24 C hR ha rfl dX0_endHeight_24 ?_
      refine lv_icmp_ne (tgt := 35) hx hb dX0_endHeight_27 (by decide) (fun c_27 => ?_) (fun c_27 => ?_)
      · refine lv_iconst (v := 0) hx hb dX0_endHeight_35 (by decide) ?_
        exact J_36 _ (by rw [h_20] at c_27; simp [c_27])
      · refine lv_bipush (v := 24) hx hb dX0_endHeight_30 (by decide) ?_
        refine lv_goto (tgt := 36) hx hb dX0_endHeight_32 (by decide) ?_
        exact J_36 _ (by rw [h_20] at c_27; simp [c_27])
  · refine lv_aload_n hx hb dX0_endHeight_7 rfl (lv_at hl 1 rfl) ?_
    refine gf_X0_38 C hR hb0 rfl dX0_endHeight_8 ?_
    refine lv_iconst (v := 2) hx hb dX0_endHeight_11 (by decide) ?_
    refine lv_aload_n hx hb dX0_endHeight_12 rfl (lv_at hl 0 rfl) ?_
    refine gf_X0_24 C hR ha rfl dX0_endHeight_13 ?_
    refine lv_imul hx hb dX0_endHeight_16 ?_
    refine lv_iadd hx hb dX0_endHeight_17 ?_
    exact ro_iret C hr hlk (by simp [cEh, c_4]) dX0_endHeight_18

def fTrn (gx gy : Nat → Int32) (i j : Nat) (hx hy : Nat → Int32) (k : Nat) : Int32 := (gx j - gx i) * hy k - (gy j - gy i) * hx k - ((gx j - gx i) * gy i - (gy j - gy i) * gx i)
def anyP (f : Nat → Int32) : Nat → Bool
  | 0 => false
  | k + 1 => anyP f k || decide (¬ f k ≤ 0)
def anyN (f : Nat → Int32) : Nat → Bool
  | 0 => false
  | k + 1 => anyN f k || decide (¬ 0 ≤ f k)
def allB (s : Bool) (f : Nat → Int32) : Nat → Bool
  | 0 => true
  | k + 1 => allB s f k && (if s = true then decide (f k < 0) else decide (0 < f k))
def sepB (n : Nat) (gx gy : Nat → Int32) (i j n2 : Nat) (hx hy : Nat → Int32) : Bool := !(anyP (fTrn gx gy i j gx gy) n && anyN (fTrn gx gy i j gx gy) n) && allB (anyP (fTrn gx gy i j gx gy) n) (fTrn gx gy i j hx hy) n2
theorem anyP_s {f : Nat → Int32} {k : Nat} : anyP f (k + 1) = true ↔ (anyP f k = true ∨ ¬ f k ≤ 0) := by rw [anyP, Bool.or_eq_true, decide_eq_true_eq]
theorem anyN_s {f : Nat → Int32} {k : Nat} : anyN f (k + 1) = true ↔ (anyN f k = true ∨ ¬ 0 ≤ f k) := by rw [anyN, Bool.or_eq_true, decide_eq_true_eq]
theorem allB_t1 {s : Bool} {f : Nat → Int32} {k : Nat} (h : allB s f k = true) (hs : s = true) (c : f k < 0) : allB s f (k + 1) = true := by rw [allB, h, if_pos hs, decide_eq_true c]; rfl
theorem allB_t2 {s : Bool} {f : Nat → Int32} {k : Nat} (h : allB s f k = true) (hs : ¬ s = true) (c : 0 < f k) : allB s f (k + 1) = true := by rw [allB, h, if_neg hs, decide_eq_true c]; rfl
theorem allB_f1 {s : Bool} {f : Nat → Int32} {k : Nat} (hs : s = true) (c : ¬ f k < 0) : allB s f (k + 1) = false := by rw [allB, if_pos hs, decide_eq_false c, Bool.and_false]
theorem allB_f2 {s : Bool} {f : Nat → Int32} {k : Nat} (hs : ¬ s = true) (c : ¬ 0 < f k) : allB s f (k + 1) = false := by rw [allB, if_neg hs, decide_eq_false c, Bool.and_false]
theorem allB_f {s : Bool} {f : Nat → Int32} {k n : Nat} (h : allB s f (k + 1) = false) (hk : k < n) : allB s f n = false := by
  induction n with
  | zero => omega
  | succ n ih =>
    by_cases e : k = n
    · subst e; exact h
    · rw [allB, ih (by omega)]; rfl
set_option maxHeartbeats 4000000 in
set_option maxRecDepth 100000 in
theorem c_X1_separates (l : Launch) (D : va_G) (cs : Nat → ClassId) (M : wM) (a xa ya n : Nat) (f gx gy : Nat → Int32) (ha : M a = some (figC f xa ya)) (hxa : M xa = some (arC cs n gx)) (hya : M ya = some (arC cs n gy)) (hn4 : n ≤ 4) (b xb yb n2 : Nat) (f2 hx0 hy0 : Nat → Int32) (hb0 : M b = some (figC f2 xb yb)) (hxb : M xb = some (arC cs n2 hx0)) (hyb : M yb = some (arC cs n2 hy0)) (hn2 : n2 ≤ 4) (i j : Nat) (hi : i < n) (hj : j < n) : Met l yX1_separates (mw yX1_separates cX1_separates 11 (some .boolean)) { frames := 0, cells := 0, slots := 0, locals := 0 } (roP D cs M [.ref a, .int (nI i), .int (nI j), .ref b]) (vp_Si (fun r => r = bI (sepB n gx gy i j n2 hx0 hy0 = true))) 0 0 noA := by
  refine ro_met rfl (Nat.le_of_ble_eq_true rfl) ?_
  intro p e s m below meth c ls C hR hr hlk hl
  have C : kx D cs p m c cX1_separates 11 s _ RX1 := C
  have hx := C.1.1
  have hb := C.1.2.1
  have hl : lv_has ls 11 [(0, .ref a), (1, .int (nI i)), (2, .int (nI j)), (3, .ref b)] := hl
  refine lv_aload_n hx hb dX1_separates_0 rfl (lv_at hl 0 rfl) ?_
  refine gf_X1_13 C hR ha rfl dX1_separates_1 ?_
  refine lv_iload_n hx hb dX1_separates_4 rfl (lv_at hl 2 rfl) ?_
  refine r_ialdN (k := j) C hR hxa (by omega) (by omega) rfl dX1_separates_5 ?_
  refine lv_aload_n hx hb dX1_separates_6 rfl (lv_at hl 0 rfl) ?_
  refine gf_X1_13 C hR ha rfl dX1_separates_7 ?_
  refine lv_iload_n hx hb dX1_separates_10 rfl (lv_at hl 1 rfl) ?_
  refine r_ialdN (k := i) C hR hxa (by omega) (by omega) rfl dX1_separates_11 ?_
  refine lv_isub hx hb dX1_separates_12 ?_
  refine lv_istore (lv' := [(4, .int ((gx j) - (gx i))), (0, .ref a), (1, .int (nI i)), (2, .int (nI j)), (3, .ref b)]) hx hb dX1_separates_13 hl (by decide) rfl (fun ls hl => ?_)
  refine lv_aload_n hx hb dX1_separates_15 rfl (lv_at hl 1 rfl) ?_
  refine gf_X1_17 C hR ha rfl dX1_separates_16 ?_
  refine lv_iload_n hx hb dX1_separates_19 rfl (lv_at hl 3 rfl) ?_
  refine r_ialdN (k := j) C hR hya (by omega) (by omega) rfl dX1_separates_20 ?_
  refine lv_aload_n hx hb dX1_separates_21 rfl (lv_at hl 1 rfl) ?_
  refine gf_X1_17 C hR ha rfl dX1_separates_22 ?_
  refine lv_iload_n hx hb dX1_separates_25 rfl (lv_at hl 2 rfl) ?_
  refine r_ialdN (k := i) C hR hya (by omega) (by omega) rfl dX1_separates_26 ?_
  refine lv_isub hx hb dX1_separates_27 ?_
  refine lv_istore (lv' := [(5, .int ((gy j) - (gy i))), (4, .int ((gx j) - (gx i))), (0, .ref a), (1, .int (nI i)), (2, .int (nI j)), (3, .ref b)]) hx hb dX1_separates_28 hl (by decide) rfl (fun ls hl => ?_)
  refine lv_iload hx hb dX1_separates_30 (lv_at hl 1 rfl) ?_
  refine lv_aload_n hx hb dX1_separates_32 rfl (lv_at hl 2 rfl) ?_
  refine gf_X1_17 C hR ha rfl dX1_separates_33 ?_
  refine lv_iload_n hx hb dX1_separates_36 rfl (lv_at hl 3 rfl) ?_
  refine r_ialdN (k := i) C hR hya (by omega) (by omega) rfl dX1_separates_37 ?_
  refine lv_imul hx hb dX1_separates_38 ?_
  refine lv_iload hx hb dX1_separates_39 (lv_at hl 0 rfl) ?_
  refine lv_aload_n hx hb dX1_separates_41 rfl (lv_at hl 2 rfl) ?_
  refine gf_X1_13 C hR ha rfl dX1_separates_42 ?_
  refine lv_iload_n hx hb dX1_separates_45 rfl (lv_at hl 3 rfl) ?_
  refine r_ialdN (k := i) C hR hxa (by omega) (by omega) rfl dX1_separates_46 ?_
  refine lv_imul hx hb dX1_separates_47 ?_
  refine lv_isub hx hb dX1_separates_48 ?_
  refine lv_istore (lv' := [(6, .int ((((gx j) - (gx i)) * (gy i)) - (((gy j) - (gy i)) * (gx i)))), (5, .int ((gy j) - (gy i))), (4, .int ((gx j) - (gx i))), (0, .ref a), (1, .int (nI i)), (2, .int (nI j)), (3, .ref b)]) hx hb dX1_separates_49 hl (by decide) rfl (fun ls hl => ?_)
  refine lv_iconst (v := 0) hx hb dX1_separates_51 (by decide) ?_
  refine lv_istore (lv' := [(7, .int 0), (6, .int ((((gx j) - (gx i)) * (gy i)) - (((gy j) - (gy i)) * (gx i)))), (5, .int ((gy j) - (gy i))), (4, .int ((gx j) - (gx i))), (0, .ref a), (1, .int (nI i)), (2, .int (nI j)), (3, .ref b)]) hx hb dX1_separates_52 hl (by decide) rfl (fun ls hl => ?_)
  refine lv_iconst (v := 0) hx hb dX1_separates_54 (by decide) ?_
  refine lv_istore (lv' := [(8, .int 0), (7, .int 0), (6, .int ((((gx j) - (gx i)) * (gy i)) - (((gy j) - (gy i)) * (gx i)))), (5, .int ((gy j) - (gy i))), (4, .int ((gx j) - (gx i))), (0, .ref a), (1, .int (nI i)), (2, .int (nI j)), (3, .ref b)]) hx hb dX1_separates_55 hl (by decide) rfl (fun ls hl => ?_)
  refine lv_iconst (v := 0) hx hb dX1_separates_57 (by decide) ?_
  refine lv_istore (lv' := [(9, .int 0), (8, .int 0), (7, .int 0), (6, .int ((((gx j) - (gx i)) * (gy i)) - (((gy j) - (gy i)) * (gx i)))), (5, .int ((gy j) - (gy i))), (4, .int ((gx j) - (gx i))), (0, .ref a), (1, .int (nI i)), (2, .int (nI j)), (3, .ref b)]) hx hb dX1_separates_58 hl (by decide) rfl (fun ls hl => ?_)
  refine W.loop (σ := Nat × Int32 × Int32 × Array Slot) (fun ⟨k0, y7, y8, ls⟩ => F0 m 60 ls []) (fun ⟨k0, y7, y8, ls⟩ => (k0 ≤ n) ∧ (y7 = bI (anyP (fTrn gx gy i j gx gy) k0 = true)) ∧ (y8 = bI (anyN (fTrn gx gy i j gx gy) k0 = true)) ∧ lv_has ls 11 [(9, .int (nI k0)), (8, .int y8), (7, .int y7), (4, .int (gx j - gx i)), (5, .int (gy j - gy i)), (6, .int ((gx j - gx i) * gy i - (gy j - gy i) * gx i)), (0, .ref a), (1, .int (nI i)), (2, .int (nI j)), (3, .ref b)]) (fun ⟨k0, y7, y8, ls⟩ => n - k0) ?_ (0, 0, 0, _) ⟨by omega, bI_f (by simp [anyP]), bI_f (by simp [anyN]), lv_sub hl [0, 1, 2, 5, 4, 3, 6, 7, 8, 9] rfl⟩ rfl
  intro ⟨k0, y7, y8, ls⟩ ⟨hk0, h7, h8, hl⟩ ih_60
  show W _ _ _ _ _ _ _ _ _ _ _ _ _ _ _ (F0 m 60 ls [])
  have hl : lv_has ls 11 [(9, .int (nI k0)), (8, .int y8), (7, .int y7), (4, .int (gx j - gx i)), (5, .int (gy j - gy i)), (6, .int ((gx j - gx i) * gy i - (gy j - gy i) * gx i)), (0, .ref a), (1, .int (nI i)), (2, .int (nI j)), (3, .ref b)] := hl
  refine lv_iload hx hb dX1_separates_60 (lv_at hl 0 rfl) ?_
  refine lv_aload_n hx hb dX1_separates_62 rfl (lv_at hl 6 rfl) ?_
  refine gf_X1_13 C hR ha rfl dX1_separates_63 ?_
  refine r_alen C hR 0 hxa rfl (v := nI n) rfl dX1_separates_66 ?_
  refine lv_icmp_ge (tgt := 136) hx hb dX1_separates_67 (by decide) (fun c_67 => ?_) (fun c_67 => ?_)
  · have c_67 := cle_t (a := n) (b := k0) c_67 (by omega) (by omega)
    refine W.cutP ((!(anyP (fTrn gx gy i j gx gy) n && anyN (fTrn gx gy i j gx gy) n)) = true) (F0 m 148 ls []) (fun hz_148 => ?_) (fun J_148 => ?_)
    · have hsep := hz_148
      have h7n : y7 = bI (anyP (fTrn gx gy i j gx gy) n = true) := by rw [show n = k0 by omega]; exact h7
      refine lv_iconst (v := 0) hx hb dX1_separates_148 (by decide) ?_
      refine lv_istore (lv' := [(9, .int 0), (8, .int y8), (7, .int y7), (4, .int (gx j - gx i)), (5, .int (gy j - gy i)), (6, .int ((gx j - gx i) * gy i - (gy j - gy i) * gx i)), (0, .ref a), (1, .int (nI i)), (2, .int (nI j)), (3, .ref b)]) hx hb dX1_separates_149 hl (by decide) rfl (fun ls hl => ?_)
      refine W.loop (σ := Nat × Array Slot) (fun ⟨k1, ls⟩ => F0 m 151 ls []) (fun ⟨k1, ls⟩ => (k1 ≤ n2) ∧ (allB (anyP (fTrn gx gy i j gx gy) n) (fTrn gx gy i j hx0 hy0) k1 = true) ∧ lv_has ls 11 [(9, .int (nI k1)), (8, .int y8), (7, .int y7), (4, .int (gx j - gx i)), (5, .int (gy j - gy i)), (6, .int ((gx j - gx i) * gy i - (gy j - gy i) * gx i)), (0, .ref a), (1, .int (nI i)), (2, .int (nI j)), (3, .ref b)]) (fun ⟨k1, ls⟩ => n2 - k1) ?_ (0, _) ⟨by omega, rfl, lv_sub hl [0, 1, 2, 3, 4, 5, 6, 7, 8, 9] rfl⟩ rfl
      intro ⟨k1, ls⟩ ⟨hk1, hall, hl⟩ ih_151
      show W _ _ _ _ _ _ _ _ _ _ _ _ _ _ _ (F0 m 151 ls [])
      have hl : lv_has ls 11 [(9, .int (nI k1)), (8, .int y8), (7, .int y7), (4, .int (gx j - gx i)), (5, .int (gy j - gy i)), (6, .int ((gx j - gx i) * gy i - (gy j - gy i) * gx i)), (0, .ref a), (1, .int (nI i)), (2, .int (nI j)), (3, .ref b)] := hl
      refine lv_iload hx hb dX1_separates_151 (lv_at hl 0 rfl) ?_
      refine lv_aload_n hx hb dX1_separates_153 rfl (lv_at hl 9 rfl) ?_
      refine gf_X1_13 C hR hb0 rfl dX1_separates_154 ?_
      refine r_alen C hR 0 hxb rfl (v := nI n2) rfl dX1_separates_157 ?_
      refine lv_icmp_ge (tgt := 213) hx hb dX1_separates_158 (by decide) (fun c_158 => ?_) (fun c_158 => ?_)
      · have c_158 := cle_t (a := n2) (b := k1) c_158 (by omega) (by omega)
        refine lv_iconst (v := 1) hx hb dX1_separates_213 (by decide) ?_
        exact ro_zret C hr hlk rfl (bI_t (by unfold sepB; rw [hsep, show n2 = k1 by omega, hall]; rfl)) dX1_separates_214
      · have c_158 := cle_f (a := n2) (b := k1) c_158 (by omega) (by omega)
        refine lv_iload hx hb dX1_separates_161 (lv_at hl 3 rfl) ?_
        refine lv_aload_n hx hb dX1_separates_163 rfl (lv_at hl 9 rfl) ?_
        refine gf_X1_17 C hR hb0 rfl dX1_separates_164 ?_
        refine lv_iload hx hb dX1_separates_167 (lv_at hl 0 rfl) ?_
        refine r_ialdN (k := k1) C hR hyb (by omega) (by omega) rfl dX1_separates_169 ?_
        refine lv_imul hx hb dX1_separates_170 ?_
        refine lv_iload hx hb dX1_separates_171 (lv_at hl 4 rfl) ?_
        refine lv_aload_n hx hb dX1_separates_173 rfl (lv_at hl 9 rfl) ?_
        refine gf_X1_13 C hR hb0 rfl dX1_separates_174 ?_
        refine lv_iload hx hb dX1_separates_177 (lv_at hl 0 rfl) ?_
        refine r_ialdN (k := k1) C hR hxb (by omega) (by omega) rfl dX1_separates_179 ?_
        refine lv_imul hx hb dX1_separates_180 ?_
        refine lv_isub hx hb dX1_separates_181 ?_
        refine lv_iload hx hb dX1_separates_182 (lv_at hl 5 rfl) ?_
        refine lv_isub hx hb dX1_separates_184 ?_
        refine lv_istore (lv' := [(10, .int ((((gx j - gx i) * (hy0 k1)) - ((gy j - gy i) * (hx0 k1))) - ((gx j - gx i) * gy i - (gy j - gy i) * gx i))), (9, .int (nI k1)), (8, .int y8), (7, .int y7), (4, .int (gx j - gx i)), (5, .int (gy j - gy i)), (6, .int ((gx j - gx i) * gy i - (gy j - gy i) * gx i)), (0, .ref a), (1, .int (nI i)), (2, .int (nI j)), (3, .ref b)]) hx hb dX1_separates_185 hl (by decide) rfl (fun ls hl => ?_)
        refine lv_iload hx hb dX1_separates_187 (lv_at hl 3 rfl) ?_
        refine lv_if_eq (tgt := 200) hx hb dX1_separates_189 (by decide) (fun c_189 => ?_) (fun c_189 => ?_)
        · have c_189 : ¬ (anyP (fTrn gx gy i j gx gy) n = true) := bz0 h7n c_189
          refine lv_iload hx hb dX1_separates_200 (lv_at hl 0 rfl) ?_
          refine lv_if_gt (tgt := 207) hx hb dX1_separates_202 (by decide) (fun c_202 => ?_) (fun c_202 => ?_)
          · refine lv_iinc (v := nI (k1 + 1)) (lv' := [(9, .int (nI (k1 + 1))), (10, .int ((((gx j - gx i) * (hy0 k1)) - ((gy j - gy i) * (hx0 k1))) - ((gx j - gx i) * gy i - (gy j - gy i) * gx i))), (8, .int y8), (7, .int y7), (4, .int (gx j - gx i)), (5, .int (gy j - gy i)), (6, .int ((gx j - gx i) * gy i - (gy j - gy i) * gx i)), (0, .ref a), (1, .int (nI i)), (2, .int (nI j)), (3, .ref b)]) hx hb dX1_separates_207 hl (k := 1) rfl (by exact tn_add rfl rfl) (by decide) rfl (fun ls hl => ?_)
            refine lv_goto (tgt := 151) hx hb dX1_separates_210 (by decide) ?_
            exact ih_151 ((k1 + 1), _) ⟨by omega, allB_t2 (f := fTrn gx gy i j hx0 hy0) (k := k1) hall c_189 c_202, lv_sub hl [0, 2, 3, 4, 5, 6, 7, 8, 9, 10] rfl⟩ (by show n2 - (k1 + 1) < n2 - k1; omega)
          · refine lv_iconst (v := 0) hx hb dX1_separates_205 (by decide) ?_
            exact ro_zret C hr hlk rfl (bI_f (by unfold sepB; rw [allB_f (k := k1) (n := n2) (allB_f2 (f := fTrn gx gy i j hx0 hy0) (k := k1) c_189 c_202) (by omega)]; simp)) dX1_separates_206
        · have c_189 : anyP (fTrn gx gy i j gx gy) n = true := bz1 h7n c_189
          refine lv_iload hx hb dX1_separates_192 (lv_at hl 0 rfl) ?_
          refine lv_if_lt (tgt := 207) hx hb dX1_separates_194 (by decide) (fun c_194 => ?_) (fun c_194 => ?_)
          · refine lv_iinc (v := nI (k1 + 1)) (lv' := [(9, .int (nI (k1 + 1))), (10, .int ((((gx j - gx i) * (hy0 k1)) - ((gy j - gy i) * (hx0 k1))) - ((gx j - gx i) * gy i - (gy j - gy i) * gx i))), (8, .int y8), (7, .int y7), (4, .int (gx j - gx i)), (5, .int (gy j - gy i)), (6, .int ((gx j - gx i) * gy i - (gy j - gy i) * gx i)), (0, .ref a), (1, .int (nI i)), (2, .int (nI j)), (3, .ref b)]) hx hb dX1_separates_207 hl (k := 1) rfl (by exact tn_add rfl rfl) (by decide) rfl (fun ls hl => ?_)
            refine lv_goto (tgt := 151) hx hb dX1_separates_210 (by decide) ?_
            exact ih_151 ((k1 + 1), _) ⟨by omega, allB_t1 (f := fTrn gx gy i j hx0 hy0) (k := k1) hall c_189 c_194, lv_sub hl [0, 2, 3, 4, 5, 6, 7, 8, 9, 10] rfl⟩ (by show n2 - (k1 + 1) < n2 - k1; omega)
          · refine lv_goto (tgt := 205) hx hb dX1_separates_197 (by decide) ?_
            refine lv_iconst (v := 0) hx hb dX1_separates_205 (by decide) ?_
            exact ro_zret C hr hlk rfl (bI_f (by unfold sepB; rw [allB_f (k := k1) (n := n2) (allB_f1 (f := fTrn gx gy i j hx0 hy0) (k := k1) c_189 c_194) (by omega)]; simp)) dX1_separates_206
    · refine lv_iload hx hb dX1_separates_136 (lv_at hl 2 rfl) ?_
      refine lv_if_eq (tgt := 148) hx hb dX1_separates_138 (by decide) (fun c_138 => ?_) (fun c_138 => ?_)
      · have c_138 : ¬ (anyP (fTrn gx gy i j gx gy) k0 = true) := bz0 h7 c_138
        exact J_148 (by rw [show n = k0 by omega]; simp [c_138])
      · have c_138 : anyP (fTrn gx gy i j gx gy) k0 = true := bz1 h7 c_138
        refine lv_iload hx hb dX1_separates_141 (lv_at hl 1 rfl) ?_
        refine lv_if_eq (tgt := 148) hx hb dX1_separates_143 (by decide) (fun c_143 => ?_) (fun c_143 => ?_)
        · have c_143 : ¬ (anyN (fTrn gx gy i j gx gy) k0 = true) := bz0 h8 c_143
          exact J_148 (by rw [show n = k0 by omega]; simp [c_138, c_143])
        · have c_143 : anyN (fTrn gx gy i j gx gy) k0 = true := bz1 h8 c_143
          refine lv_iconst (v := 0) hx hb dX1_separates_146 (by decide) ?_
          exact ro_zret C hr hlk rfl (bI_f (by unfold sepB; rw [show n = k0 by omega, c_138, c_143]; simp)) dX1_separates_147
  · have c_67 := cle_f (a := n) (b := k0) c_67 (by omega) (by omega)
    refine lv_iload hx hb dX1_separates_70 (lv_at hl 3 rfl) ?_
    refine lv_aload_n hx hb dX1_separates_72 rfl (lv_at hl 6 rfl) ?_
    refine gf_X1_17 C hR ha rfl dX1_separates_73 ?_
    refine lv_iload hx hb dX1_separates_76 (lv_at hl 0 rfl) ?_
    refine r_ialdN (k := k0) C hR hya (by omega) (by omega) rfl dX1_separates_78 ?_
    refine lv_imul hx hb dX1_separates_79 ?_
    refine lv_iload hx hb dX1_separates_80 (lv_at hl 4 rfl) ?_
    refine lv_aload_n hx hb dX1_separates_82 rfl (lv_at hl 6 rfl) ?_
    refine gf_X1_13 C hR ha rfl dX1_separates_83 ?_
    refine lv_iload hx hb dX1_separates_86 (lv_at hl 0 rfl) ?_
    refine r_ialdN (k := k0) C hR hxa (by omega) (by omega) rfl dX1_separates_88 ?_
    refine lv_imul hx hb dX1_separates_89 ?_
    refine lv_isub hx hb dX1_separates_90 ?_
    refine lv_iload hx hb dX1_separates_91 (lv_at hl 5 rfl) ?_
    refine lv_isub hx hb dX1_separates_93 ?_
    refine lv_istore (lv' := [(10, .int ((((gx j - gx i) * (gy k0)) - ((gy j - gy i) * (gx k0))) - ((gx j - gx i) * gy i - (gy j - gy i) * gx i))), (9, .int (nI k0)), (8, .int y8), (7, .int y7), (4, .int (gx j - gx i)), (5, .int (gy j - gy i)), (6, .int ((gx j - gx i) * gy i - (gy j - gy i) * gx i)), (0, .ref a), (1, .int (nI i)), (2, .int (nI j)), (3, .ref b)]) hx hb dX1_separates_94 hl (by decide) rfl (fun ls hl => ?_)
    refine W.cut (fun z => z = bI (anyP (fTrn gx gy i j gx gy) (k0 + 1) = true)) (fun z => F0 m 111 ls (.int z :: [])) (fun z_111 hz_111 => ?_) (fun J_111 => ?_)
    · refine lv_istore (lv' := [(7, .int z_111), (10, .int ((((gx j - gx i) * (gy k0)) - ((gy j - gy i) * (gx k0))) - ((gx j - gx i) * gy i - (gy j - gy i) * gx i))), (9, .int (nI k0)), (8, .int y8), (4, .int (gx j - gx i)), (5, .int (gy j - gy i)), (6, .int ((gx j - gx i) * gy i - (gy j - gy i) * gx i)), (0, .ref a), (1, .int (nI i)), (2, .int (nI j)), (3, .ref b)]) hx hb dX1_separates_111 hl (by decide) rfl (fun ls hl => ?_)
      refine W.cut (fun z => z = bI (anyN (fTrn gx gy i j gx gy) (k0 + 1) = true)) (fun z => F0 m 128 ls (.int z :: [])) (fun z_128 hz_128 => ?_) (fun J_128 => ?_)
      · refine lv_istore (lv' := [(8, .int z_128), (7, .int z_111), (10, .int ((((gx j - gx i) * (gy k0)) - ((gy j - gy i) * (gx k0))) - ((gx j - gx i) * gy i - (gy j - gy i) * gx i))), (9, .int (nI k0)), (4, .int (gx j - gx i)), (5, .int (gy j - gy i)), (6, .int ((gx j - gx i) * gy i - (gy j - gy i) * gx i)), (0, .ref a), (1, .int (nI i)), (2, .int (nI j)), (3, .ref b)]) hx hb dX1_separates_128 hl (by decide) rfl (fun ls hl => ?_)
        refine lv_iinc (v := nI (k0 + 1)) (lv' := [(9, .int (nI (k0 + 1))), (8, .int z_128), (7, .int z_111), (10, .int ((((gx j - gx i) * (gy k0)) - ((gy j - gy i) * (gx k0))) - ((gx j - gx i) * gy i - (gy j - gy i) * gx i))), (4, .int (gx j - gx i)), (5, .int (gy j - gy i)), (6, .int ((gx j - gx i) * gy i - (gy j - gy i) * gx i)), (0, .ref a), (1, .int (nI i)), (2, .int (nI j)), (3, .ref b)]) hx hb dX1_separates_130 hl (k := 3) rfl (by exact tn_add rfl rfl) (by decide) rfl (fun ls hl => ?_)
        refine lv_goto (tgt := 60) hx hb dX1_separates_133 (by decide) ?_
        exact ih_60 ((k0 + 1), z_111, z_128, _) ⟨by omega, hz_111, hz_128, lv_sub hl [0, 1, 2, 4, 5, 6, 7, 8, 9, 10] rfl⟩ (by show n - (k0 + 1) < n - k0; omega)
      · refine lv_iload hx hb dX1_separates_113 (lv_at hl 3 rfl) ?_
        refine lv_if_ne (tgt := 123) hx hb dX1_separates_115 (by decide) (fun c_115 => ?_) (fun c_115 => ?_)
        · have c_115 : anyN (fTrn gx gy i j gx gy) k0 = true := bz1 h8 c_115
          refine lv_iconst (v := 1) hx hb dX1_separates_123 (by decide) ?_
          refine lv_goto (tgt := 128) hx hb dX1_separates_124 (by decide) ?_
          exact J_128 _ (bI_t (anyN_s.mpr (Or.inl c_115)))
        · have c_115 : ¬ (anyN (fTrn gx gy i j gx gy) k0 = true) := bz0 h8 c_115
          refine lv_iload hx hb dX1_separates_118 (lv_at hl 1 rfl) ?_
          refine lv_if_ge (tgt := 127) hx hb dX1_separates_120 (by decide) (fun c_120 => ?_) (fun c_120 => ?_)
          · refine lv_iconst (v := 0) hx hb dX1_separates_127 (by decide) ?_
            exact J_128 _ (bI_f (fun h => (anyN_s.mp h).elim c_115 (fun h => h c_120)))
          · refine lv_iconst (v := 1) hx hb dX1_separates_123 (by decide) ?_
            refine lv_goto (tgt := 128) hx hb dX1_separates_124 (by decide) ?_
            exact J_128 _ (bI_t (anyN_s.mpr (Or.inr c_120)))
    · refine lv_iload hx hb dX1_separates_96 (lv_at hl 3 rfl) ?_
      refine lv_if_ne (tgt := 106) hx hb dX1_separates_98 (by decide) (fun c_98 => ?_) (fun c_98 => ?_)
      · have c_98 : anyP (fTrn gx gy i j gx gy) k0 = true := bz1 h7 c_98
        refine lv_iconst (v := 1) hx hb dX1_separates_106 (by decide) ?_
        refine lv_goto (tgt := 111) hx hb dX1_separates_107 (by decide) ?_
        exact J_111 _ (bI_t (anyP_s.mpr (Or.inl c_98)))
      · have c_98 : ¬ (anyP (fTrn gx gy i j gx gy) k0 = true) := bz0 h7 c_98
        refine lv_iload hx hb dX1_separates_101 (lv_at hl 0 rfl) ?_
        refine lv_if_le (tgt := 110) hx hb dX1_separates_103 (by decide) (fun c_103 => ?_) (fun c_103 => ?_)
        · refine lv_iconst (v := 0) hx hb dX1_separates_110 (by decide) ?_
          exact J_111 _ (bI_f (fun h => (anyP_s.mp h).elim c_98 (fun h => h c_103)))
        · refine lv_iconst (v := 1) hx hb dX1_separates_106 (by decide) ?_
          refine lv_goto (tgt := 111) hx hb dX1_separates_107 (by decide) ?_
          exact J_111 _ (bI_t (anyP_s.mpr (Or.inr c_103)))


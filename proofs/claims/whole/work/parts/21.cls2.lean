def edB (n : Nat) (gx gy : Nat → Int32) (n2 : Nat) (hx hy : Nat → Int32) : Bool := (List.range n).any fun i => (List.range n).any fun j => decide (i < j) && sepB n gx gy i j n2 hx hy
theorem edB_iff {n : Nat} {gx gy : Nat → Int32} {n2 : Nat} {hx hy : Nat → Int32} : edB n gx gy n2 hx hy = true ↔ ∃ i j, i < j ∧ j < n ∧ sepB n gx gy i j n2 hx hy = true := by
  unfold edB
  simp only [List.any_eq_true, List.mem_range, Bool.and_eq_true, decide_eq_true_eq]
  constructor
  · rintro ⟨i, hi, j, hj, hij, h⟩
    exact ⟨i, j, hij, hj, h⟩
  · rintro ⟨i, j, hij, hj, h⟩
    exact ⟨i, by omega, j, hj, hij, h⟩
def metB (f : Nat → Int32) (n : Nat) (gx gy : Nat → Int32) (f2 : Nat → Int32) (n2 : Nat) (hx hy : Nat → Int32) : Bool := decide (f 0 = f2 0 ∧ ¬ f2 4 < f 3 ∧ ¬ f 4 < f2 3 ∧ ¬ f2 6 < f 5 ∧ ¬ f 6 < f2 5) && (!edB n gx gy n2 hx hy && !edB n2 hx hy n gx gy)
set_option maxHeartbeats 4000000 in
set_option maxRecDepth 100000 in
theorem c_X1_hasEdgeBefore (l : Launch) (D : va_G) (cs : Nat → ClassId) (M : wM) (a xa ya n : Nat) (f gx gy : Nat → Int32) (ha : M a = some (figC f xa ya)) (hxa : M xa = some (arC cs n gx)) (hya : M ya = some (arC cs n gy)) (hn4 : n ≤ 4) (b xb yb n2 : Nat) (f2 hx0 hy0 : Nat → Int32) (hb0 : M b = some (figC f2 xb yb)) (hxb : M xb = some (arC cs n2 hx0)) (hyb : M yb = some (arC cs n2 hy0)) (hn2 : n2 ≤ 4)  : Met l yX1_hasEdgeBefore (mw yX1_hasEdgeBefore cX1_hasEdgeBefore 4 (some .boolean)) { frames := 1, cells := 0, slots := 0, locals := 30 } (roP D cs M [.ref a, .ref b]) (vp_Si (fun r => r = bI (edB n gx gy n2 hx0 hy0 = true))) 0 0 noA := by
  refine ro_met rfl (Nat.le_of_ble_eq_true rfl) ?_
  intro p e s m below meth c ls C hR hr hlk hl
  have C : kx D cs p m c cX1_hasEdgeBefore 4 s _ RX1 := C
  have hx := C.1.1
  have hb := C.1.2.1
  have hl : lv_has ls 4 [(0, .ref a), (1, .ref b)] := hl
  refine lv_iconst (v := 0) hx hb dX1_hasEdgeBefore_0 (by decide) ?_
  refine lv_istore_n (lv' := [(2, .int 0), (0, .ref a), (1, .ref b)]) hx hb dX1_hasEdgeBefore_1 rfl hl (by decide) rfl (fun ls hl => ?_)
  refine W.loop (σ := Nat × Array Slot) (fun ⟨i, ls⟩ => F0 m 2 ls []) (fun ⟨i, ls⟩ => (i ≤ n) ∧ (∀ i2 j2, i2 < i → i2 < j2 → j2 < n → sepB n gx gy i2 j2 n2 hx0 hy0 = false) ∧ lv_has ls 4 [(2, .int (nI i)), (0, .ref a), (1, .ref b)]) (fun ⟨i, ls⟩ => n - i) ?_ (0, _) ⟨by omega, fun i2 j2 h => absurd h (by omega), lv_sub hl [0, 1, 2] rfl⟩ rfl
  intro ⟨i, ls⟩ ⟨hi, hi2, hl⟩ ih_2
  show W _ _ _ _ _ _ _ _ _ _ _ _ _ _ _ (F0 m 2 ls [])
  have hl : lv_has ls 4 [(2, .int (nI i)), (0, .ref a), (1, .ref b)] := hl
  refine lv_iload_n hx hb dX1_hasEdgeBefore_2 rfl (lv_at hl 0 rfl) ?_
  refine lv_aload_n hx hb dX1_hasEdgeBefore_3 rfl (lv_at hl 1 rfl) ?_
  refine gf_X1_13 C hR ha rfl dX1_hasEdgeBefore_4 ?_
  refine r_alen C hR 0 hxa rfl (v := nI n) rfl dX1_hasEdgeBefore_7 ?_
  refine lv_icmp_ge (tgt := 48) hx hb dX1_hasEdgeBefore_8 (by decide) (fun c_8 => ?_) (fun c_8 => ?_)
  · have c_8 := cle_t (a := n) (b := i) c_8 (by omega) (by omega)
    refine lv_iconst (v := 0) hx hb dX1_hasEdgeBefore_48 (by decide) ?_
    exact ro_zret C hr hlk rfl (bI_f (fun h => by obtain ⟨i2, j2, h3, h4, h5⟩ := edB_iff.mp h; rw [hi2 i2 j2 (by omega) h3 h4] at h5; cases h5)) dX1_hasEdgeBefore_49
  · have c_8 := cle_f (a := n) (b := i) c_8 (by omega) (by omega)
    refine lv_iload_n hx hb dX1_hasEdgeBefore_11 rfl (lv_at hl 0 rfl) ?_
    refine lv_iconst (v := 1) hx hb dX1_hasEdgeBefore_12 (by decide) ?_
    refine lv_iadd hx hb dX1_hasEdgeBefore_13 ?_
    refine top_eq (y := nI (i + 1)) (tn_add rfl rfl) ?_
    refine lv_istore_n (lv' := [(3, .int (nI (i + 1))), (2, .int (nI i)), (0, .ref a), (1, .ref b)]) hx hb dX1_hasEdgeBefore_14 rfl hl (by decide) rfl (fun ls hl => ?_)
    refine W.loop (σ := Nat × Array Slot) (fun ⟨j, ls⟩ => F0 m 15 ls []) (fun ⟨j, ls⟩ => (j ≤ n) ∧ (i < j) ∧ (∀ j2, i < j2 → j2 < j → sepB n gx gy i j2 n2 hx0 hy0 = false) ∧ lv_has ls 4 [(3, .int (nI j)), (2, .int (nI i)), (0, .ref a), (1, .ref b)]) (fun ⟨j, ls⟩ => n - j) ?_ ((i + 1), _) ⟨by omega, by omega, fun j2 h h3 => absurd h3 (by omega), lv_sub hl [0, 1, 2, 3] rfl⟩ rfl
    intro ⟨j, ls⟩ ⟨hj, hij, hj2, hl⟩ ih_15
    show W _ _ _ _ _ _ _ _ _ _ _ _ _ _ _ (F0 m 15 ls [])
    have hl : lv_has ls 4 [(3, .int (nI j)), (2, .int (nI i)), (0, .ref a), (1, .ref b)] := hl
    refine lv_iload_n hx hb dX1_hasEdgeBefore_15 rfl (lv_at hl 0 rfl) ?_
    refine lv_aload_n hx hb dX1_hasEdgeBefore_16 rfl (lv_at hl 2 rfl) ?_
    refine gf_X1_13 C hR ha rfl dX1_hasEdgeBefore_17 ?_
    refine r_alen C hR 0 hxa rfl (v := nI n) rfl dX1_hasEdgeBefore_20 ?_
    refine lv_icmp_ge (tgt := 42) hx hb dX1_hasEdgeBefore_21 (by decide) (fun c_21 => ?_) (fun c_21 => ?_)
    · have c_21 := cle_t (a := n) (b := j) c_21 (by omega) (by omega)
      refine lv_iinc (v := nI (i + 1)) (lv' := [(2, .int (nI (i + 1))), (3, .int (nI j)), (0, .ref a), (1, .ref b)]) hx hb dX1_hasEdgeBefore_42 hl (k := 1) rfl (by exact tn_add rfl rfl) (by decide) rfl (fun ls hl => ?_)
      refine lv_goto (tgt := 2) hx hb dX1_hasEdgeBefore_45 (by decide) ?_
      exact ih_2 ((i + 1), _) ⟨by omega, fun i2 j2 h h3 h4 => by by_cases z : i2 = i; subst z; exact hj2 j2 h3 (by omega); exact hi2 i2 j2 (by omega) h3 h4, lv_sub hl [0, 2, 3] rfl⟩ (by show n - (i + 1) < n - i; omega)
    · have c_21 := cle_f (a := n) (b := j) c_21 (by omega) (by omega)
      refine lv_aload_n hx hb dX1_hasEdgeBefore_24 rfl (lv_at hl 2 rfl) ?_
      refine lv_iload_n hx hb dX1_hasEdgeBefore_25 rfl (lv_at hl 1 rfl) ?_
      refine lv_iload_n hx hb dX1_hasEdgeBefore_26 rfl (lv_at hl 0 rfl) ?_
      refine lv_aload_n hx hb dX1_hasEdgeBefore_27 rfl (lv_at hl 3 rfl) ?_
      refine ro_goI (ro_V (As := [.int (nI i), .int (nI j), .ref b]) (rest := []) C hR st_X1_55 (c_X1_separates l D cs _ a xa ya n f gx gy ha hxa hya (by omega) b xb yb n2 f2 hx0 hy0 hb0 hxb hyb (by omega) i j (by omega) (by omega)) ha rfl rfl ⟨rfl, rfl, Nat.le_of_ble_eq_true rfl, Nat.le_of_ble_eq_true rfl⟩ rfl hl.1 rfl (Nat.le_of_ble_eq_true rfl) dX1_hasEdgeBefore_28 ⟨Nat.le_of_ble_eq_true rfl, Nat.le_of_ble_eq_true rfl⟩) (fun r_28 h_28 => ?_)
      refine lv_if_eq (tgt := 36) hx hb dX1_hasEdgeBefore_31 (by decide) (fun c_31 => ?_) (fun c_31 => ?_)
      · have c_31 : ¬ (sepB n gx gy i j n2 hx0 hy0 = true) := bz0 h_28 c_31
        refine lv_iinc (v := nI (j + 1)) (lv' := [(3, .int (nI (j + 1))), (2, .int (nI i)), (0, .ref a), (1, .ref b)]) hx hb dX1_hasEdgeBefore_36 hl (k := 0) rfl (by exact tn_add rfl rfl) (by decide) rfl (fun ls hl => ?_)
        refine lv_goto (tgt := 15) hx hb dX1_hasEdgeBefore_39 (by decide) ?_
        exact ih_15 ((j + 1), _) ⟨by omega, by omega, fun j2 h h3 => by by_cases z : j2 = j; subst z; exact (by simpa using c_31); exact hj2 j2 h (by omega), lv_sub hl [0, 1, 2, 3] rfl⟩ (by show n - (j + 1) < n - j; omega)
      · have c_31 : sepB n gx gy i j n2 hx0 hy0 = true := bz1 h_28 c_31
        refine lv_iconst (v := 1) hx hb dX1_hasEdgeBefore_34 (by decide) ?_
        exact ro_zret C hr hlk rfl (bI_t (edB_iff.mpr ⟨i, j, by omega, by omega, c_31⟩)) dX1_hasEdgeBefore_35

set_option maxHeartbeats 4000000 in
set_option maxRecDepth 100000 in
theorem c_X1_meets (l : Launch) (D : va_G) (cs : Nat → ClassId) (M : wM) (a xa ya n : Nat) (f gx gy : Nat → Int32) (ha : M a = some (figC f xa ya)) (hxa : M xa = some (arC cs n gx)) (hya : M ya = some (arC cs n gy)) (hn4 : n ≤ 4) (b xb yb n2 : Nat) (f2 hx0 hy0 : Nat → Int32) (hb0 : M b = some (figC f2 xb yb)) (hxb : M xb = some (arC cs n2 hx0)) (hyb : M yb = some (arC cs n2 hy0)) (hn2 : n2 ≤ 4)  : Met l yX1_meets (mw yX1_meets cX1_meets 2 (some .boolean)) { frames := 2, cells := 0, slots := 0, locals := 53 } (roP D cs M [.ref a, .ref b]) (vp_Si (fun r => r = bI (metB f n gx gy f2 n2 hx0 hy0 = true))) 0 0 noA := by
  refine ro_met rfl (Nat.le_of_ble_eq_true rfl) ?_
  intro p e s m below meth c ls C hR hr hlk hl
  have C : kx D cs p m c cX1_meets 2 s _ RX1 := C
  have hx := C.1.1
  have hb := C.1.2.1
  have hl : lv_has ls 2 [(0, .ref a), (1, .ref b)] := hl
  refine lv_aload_n hx hb dX1_meets_0 rfl (lv_at hl 0 rfl) ?_
  refine gf_X1_7 C hR ha rfl dX1_meets_1 ?_
  refine lv_aload_n hx hb dX1_meets_4 rfl (lv_at hl 1 rfl) ?_
  refine gf_X1_7 C hR hb0 rfl dX1_meets_5 ?_
  refine lv_icmp_ne (tgt := 75) hx hb dX1_meets_8 (by decide) (fun c_8 => ?_) (fun c_8 => ?_)
  · refine lv_iconst (v := 0) hx hb dX1_meets_75 (by decide) ?_
    exact ro_zret C hr hlk rfl (bI_f (by simp [metB, c_8])) dX1_meets_76
  · refine lv_aload_n hx hb dX1_meets_11 rfl (lv_at hl 0 rfl) ?_
    refine gf_X1_30 C hR ha rfl dX1_meets_12 ?_
    refine lv_aload_n hx hb dX1_meets_15 rfl (lv_at hl 1 rfl) ?_
    refine gf_X1_33 C hR hb0 rfl dX1_meets_16 ?_
    refine lv_icmp_gt (tgt := 75) hx hb dX1_meets_19 (by decide) (fun c_19 => ?_) (fun c_19 => ?_)
    · refine lv_iconst (v := 0) hx hb dX1_meets_75 (by decide) ?_
      exact ro_zret C hr hlk rfl (bI_f (by simp [metB, c_8, c_19])) dX1_meets_76
    · refine lv_aload_n hx hb dX1_meets_22 rfl (lv_at hl 1 rfl) ?_
      refine gf_X1_30 C hR hb0 rfl dX1_meets_23 ?_
      refine lv_aload_n hx hb dX1_meets_26 rfl (lv_at hl 0 rfl) ?_
      refine gf_X1_33 C hR ha rfl dX1_meets_27 ?_
      refine lv_icmp_gt (tgt := 75) hx hb dX1_meets_30 (by decide) (fun c_30 => ?_) (fun c_30 => ?_)
      · refine lv_iconst (v := 0) hx hb dX1_meets_75 (by decide) ?_
        exact ro_zret C hr hlk rfl (bI_f (by simp [metB, c_8, c_19, c_30])) dX1_meets_76
      · refine lv_aload_n hx hb dX1_meets_33 rfl (lv_at hl 0 rfl) ?_
        refine gf_X1_36 C hR ha rfl dX1_meets_34 ?_
        refine lv_aload_n hx hb dX1_meets_37 rfl (lv_at hl 1 rfl) ?_
        refine gf_X1_39 C hR hb0 rfl dX1_meets_38 ?_
        refine lv_icmp_gt (tgt := 75) hx hb dX1_meets_41 (by decide) (fun c_41 => ?_) (fun c_41 => ?_)
        · refine lv_iconst (v := 0) hx hb dX1_meets_75 (by decide) ?_
          exact ro_zret C hr hlk rfl (bI_f (by simp [metB, c_8, c_19, c_30, c_41])) dX1_meets_76
        · refine lv_aload_n hx hb dX1_meets_44 rfl (lv_at hl 1 rfl) ?_
          refine gf_X1_36 C hR hb0 rfl dX1_meets_45 ?_
          refine lv_aload_n hx hb dX1_meets_48 rfl (lv_at hl 0 rfl) ?_
          refine gf_X1_39 C hR ha rfl dX1_meets_49 ?_
          refine lv_icmp_gt (tgt := 75) hx hb dX1_meets_52 (by decide) (fun c_52 => ?_) (fun c_52 => ?_)
          · refine lv_iconst (v := 0) hx hb dX1_meets_75 (by decide) ?_
            exact ro_zret C hr hlk rfl (bI_f (by simp [metB, c_8, c_19, c_30, c_41, c_52])) dX1_meets_76
          · refine lv_aload_n hx hb dX1_meets_55 rfl (lv_at hl 0 rfl) ?_
            refine lv_aload_n hx hb dX1_meets_56 rfl (lv_at hl 1 rfl) ?_
            refine ro_goI (ro_V (As := [.ref b]) (rest := []) C hR st_X1_51 (c_X1_hasEdgeBefore l D cs _ a xa ya n f gx gy ha hxa hya (by omega) b xb yb n2 f2 hx0 hy0 hb0 hxb hyb (by omega)) ha rfl rfl ⟨rfl, rfl, Nat.le_of_ble_eq_true rfl, Nat.le_of_ble_eq_true rfl⟩ rfl hl.1 rfl (Nat.le_of_ble_eq_true rfl) dX1_meets_57 ⟨Nat.le_of_ble_eq_true rfl, Nat.le_of_ble_eq_true rfl⟩) (fun r_57 h_57 => ?_)
            refine lv_if_ne (tgt := 75) hx hb dX1_meets_60 (by decide) (fun c_60 => ?_) (fun c_60 => ?_)
            · have c_60 : edB n gx gy n2 hx0 hy0 = true := bz1 h_57 c_60
              refine lv_iconst (v := 0) hx hb dX1_meets_75 (by decide) ?_
              exact ro_zret C hr hlk rfl (bI_f (by simp [metB, c_8, c_19, c_30, c_41, c_52, c_60])) dX1_meets_76
            · have c_60 : ¬ (edB n gx gy n2 hx0 hy0 = true) := bz0 h_57 c_60
              refine lv_aload_n hx hb dX1_meets_63 rfl (lv_at hl 1 rfl) ?_
              refine lv_aload_n hx hb dX1_meets_64 rfl (lv_at hl 0 rfl) ?_
              refine ro_goI (ro_V (As := [.ref a]) (rest := []) C hR st_X1_51 (c_X1_hasEdgeBefore l D cs _ b xb yb n2 f2 hx0 hy0 hb0 hxb hyb (by omega) a xa ya n f gx gy ha hxa hya (by omega)) hb0 rfl rfl ⟨rfl, rfl, Nat.le_of_ble_eq_true rfl, Nat.le_of_ble_eq_true rfl⟩ rfl hl.1 rfl (Nat.le_of_ble_eq_true rfl) dX1_meets_65 ⟨Nat.le_of_ble_eq_true rfl, Nat.le_of_ble_eq_true rfl⟩) (fun r_65 h_65 => ?_)
              refine lv_if_ne (tgt := 75) hx hb dX1_meets_68 (by decide) (fun c_68 => ?_) (fun c_68 => ?_)
              · have c_68 : edB n2 hx0 hy0 n gx gy = true := bz1 h_65 c_68
                refine lv_iconst (v := 0) hx hb dX1_meets_75 (by decide) ?_
                exact ro_zret C hr hlk rfl (bI_f (by simp [metB, c_8, c_19, c_30, c_41, c_52, c_60, c_68])) dX1_meets_76
              · have c_68 : ¬ (edB n2 hx0 hy0 n gx gy = true) := bz0 h_65 c_68
                refine lv_iconst (v := 1) hx hb dX1_meets_71 (by decide) ?_
                refine lv_goto (tgt := 76) hx hb dX1_meets_72 (by decide) ?_
                exact ro_zret C hr hlk rfl (bI_t (by simp [metB, c_8, c_19, c_30, c_41, c_52, c_60, c_68])) dX1_meets_76

set_option maxHeartbeats 4000000 in
set_option maxRecDepth 100000 in
theorem c_X1_row (l : Launch) (D : va_G) (cs : Nat → ClassId) (M : wM) (a xa ya : Nat) (f : Nat → Int32) (ha : M a = some (figC f xa ya)) (ax : Int32) : Met l yX1_row (mw yX1_row cX1_row 2 (some (.array .int))) { frames := 0, cells := 0, slots := 0, locals := 0 } (roP D cs M [.ref a, .int ax]) (va_Sq (fun r => r = some (if ax = 0 then xa else ya))) 0 0 noA := by
  refine ro_met rfl (Nat.le_of_ble_eq_true rfl) ?_
  intro p e s m below meth c ls C hR hr hlk hl
  have C : kx D cs p m c cX1_row 2 s _ RX1 := C
  have hx := C.1.1
  have hb := C.1.2.1
  have hl : lv_has ls 2 [(0, .ref a), (1, .int ax)] := hl
  refine lv_iload_n hx hb dX1_row_0 rfl (lv_at hl 1 rfl) ?_
  refine lv_if_ne (tgt := 11) hx hb dX1_row_1 (by decide) (fun c_1 => ?_) (fun c_1 => ?_)
  · refine lv_aload_n hx hb dX1_row_11 rfl (lv_at hl 0 rfl) ?_
    refine gf_X1_17 C hR ha rfl dX1_row_12 ?_
    exact ro_aret C hr (Or.inr ⟨_, rfl⟩) hlk (some ya) rfl (by simp [c_1]) dX1_row_15
  · refine lv_aload_n hx hb dX1_row_4 rfl (lv_at hl 0 rfl) ?_
    refine gf_X1_13 C hR ha rfl dX1_row_5 ?_
    refine lv_goto (tgt := 15) hx hb dX1_row_8 (by decide) ?_
    exact ro_aret C hr (Or.inr ⟨_, rfl⟩) hlk (some xa) rfl (by simp [c_1]) dX1_row_15

def pCc (c0 : Nat → Int32) : Int32 := if c0 3 = 0 then 24 else 8
def pBad (q : Int32) : Int32 := 4 * (q - q / 8 * 8) * (4 * (q - q / 8 * 8)) + 48 * (q / 8) * (q / 8)
def pWin (q0 c0 q1 c1 : Nat → Int32) : Bool := decide (q0 1 = q1 1 ∧ ¬ c1 0 ≤ c0 0 ∧ c0 4 = c1 4 ∧ ¬ q0 2 < q1 2 ∧ ¬ q1 4 < q0 4)
set_option maxHeartbeats 4000000 in
set_option maxRecDepth 100000 in
theorem c_X3_candidateCount (l : Launch) (D : va_G) (cs : Nat → ClassId) (M : wM) (a ca ha : Nat) (q0 c0 : Nat → Int32) (na nb : Nat) (hp : M a = some (parC q0 ca ha)) (hc : M ca = some (curC c0 na nb))  : Met l yX3_candidateCount (mw yX3_candidateCount cX3_candidateCount 1 (some .int)) { frames := 0, cells := 0, slots := 0, locals := 0 } (roP D cs M [.ref a]) (vp_Si (fun r => r = pCc c0)) 0 0 noA := by
  refine ro_met rfl (Nat.le_of_ble_eq_true rfl) ?_
  intro p e s m below meth c ls C hR hr hlk hl
  have C : kx D cs p m c cX3_candidateCount 1 s _ RX3 := C
  have hx := C.1.1
  have hb := C.1.2.1
  have hl : lv_has ls 1 [(0, .ref a)] := hl
  refine lv_aload_n hx hb dX3_candidateCount_0 rfl (lv_at hl 0 rfl) ?_
  refine gf_X3_13 C hR hp rfl dX3_candidateCount_1 ?_
  refine gf_X3_51 C hR hc rfl dX3_candidateCount_4 ?_
  refine lv_if_eq (tgt := 15) hx hb dX3_candidateCount_7 (by decide) (fun c_7 => ?_) (fun c_7 => ?_)
  · refine lv_bipush (v := 24) hx hb dX3_candidateCount_15 (by decide) ?_
    exact ro_iret C hr hlk (by simp [pCc, c_7]) dX3_candidateCount_17
  · refine lv_bipush (v := 8) hx hb dX3_candidateCount_10 (by decide) ?_
    refine lv_goto (tgt := 17) hx hb dX3_candidateCount_12 (by decide) ?_
    exact ro_iret C hr hlk (by simp [pCc, c_7]) dX3_candidateCount_17

set_option maxHeartbeats 4000000 in
set_option maxRecDepth 100000 in
theorem c_X3_badness (l : Launch) (D : va_G) (cs : Nat → ClassId) (M : wM) (a : Nat) (q : Int32) : Met l yX3_badness (mw yX3_badness cX3_badness 4 (some .int)) { frames := 0, cells := 0, slots := 0, locals := 0 } (roP D cs M [.ref a, .int q]) (vp_Si (fun r => r = pBad q)) 0 0 noA := by
  refine ro_met rfl (Nat.le_of_ble_eq_true rfl) ?_
  intro p e s m below meth c ls C hR hr hlk hl
  have C : kx D cs p m c cX3_badness 4 s _ RX3 := C
  have hx := C.1.1
  have hb := C.1.2.1
  have hl : lv_has ls 4 [(0, .ref a), (1, .int q)] := hl
  refine lv_iconst (v := 4) hx hb dX3_badness_0 (by decide) ?_
  refine lv_iload_n hx hb dX3_badness_1 rfl (lv_at hl 1 rfl) ?_
  refine lv_bipush (v := 8) hx hb dX3_badness_2 (by decide) ?_
  refine lv_irem hx hb dX3_badness_4 (by decide) ?_
  refine lv_imul hx hb dX3_badness_5 ?_
  refine lv_istore_n (lv' := [(2, .int (4 * (q - q / 8 * 8))), (0, .ref a), (1, .int q)]) hx hb dX3_badness_6 rfl hl (by decide) rfl (fun ls hl => ?_)
  refine lv_iload_n hx hb dX3_badness_7 rfl (lv_at hl 2 rfl) ?_
  refine lv_bipush (v := 8) hx hb dX3_badness_8 (by decide) ?_
  refine lv_idiv hx hb dX3_badness_10 (by decide) ?_
  refine lv_istore_n (lv' := [(3, .int (q / 8)), (2, .int (4 * (q - q / 8 * 8))), (0, .ref a), (1, .int q)]) hx hb dX3_badness_11 rfl hl (by decide) rfl (fun ls hl => ?_)
  refine lv_iload_n hx hb dX3_badness_12 rfl (lv_at hl 1 rfl) ?_
  refine lv_iload_n hx hb dX3_badness_13 rfl (lv_at hl 1 rfl) ?_
  refine lv_imul hx hb dX3_badness_14 ?_
  refine lv_bipush (v := 48) hx hb dX3_badness_15 (by decide) ?_
  refine lv_iload_n hx hb dX3_badness_17 rfl (lv_at hl 0 rfl) ?_
  refine lv_imul hx hb dX3_badness_18 ?_
  refine lv_iload_n hx hb dX3_badness_19 rfl (lv_at hl 0 rfl) ?_
  refine lv_imul hx hb dX3_badness_20 ?_
  refine lv_iadd hx hb dX3_badness_21 ?_
  exact ro_iret C hr hlk (by simp [pBad]) dX3_badness_22

set_option maxHeartbeats 4000000 in
set_option maxRecDepth 100000 in
theorem c_X3_liesWithin (l : Launch) (D : va_G) (cs : Nat → ClassId) (M : wM) (a ca ha : Nat) (q0 c0 : Nat → Int32) (na nb : Nat) (hp : M a = some (parC q0 ca ha)) (hc : M ca = some (curC c0 na nb)) (b cb hb9 : Nat) (q1 c1 : Nat → Int32) (nc nd : Nat) (hp1 : M b = some (parC q1 cb hb9)) (hc1 : M cb = some (curC c1 nc nd))  : Met l yX3_liesWithin (mw yX3_liesWithin cX3_liesWithin 2 (some .boolean)) { frames := 0, cells := 0, slots := 0, locals := 0 } (roP D cs M [.ref a, .ref b]) (vp_Si (fun r => r = bI (pWin q0 c0 q1 c1 = true))) 0 0 noA := by
  refine ro_met rfl (Nat.le_of_ble_eq_true rfl) ?_
  intro p e s m below meth c ls C hR hr hlk hl
  have C : kx D cs p m c cX3_liesWithin 2 s _ RX3 := C
  have hx := C.1.1
  have hb := C.1.2.1
  have hl : lv_has ls 2 [(0, .ref a), (1, .ref b)] := hl
  refine lv_aload_n hx hb dX3_liesWithin_0 rfl (lv_at hl 0 rfl) ?_
  refine gf_X3_17 C hR hp rfl dX3_liesWithin_1 ?_
  refine lv_aload_n hx hb dX3_liesWithin_4 rfl (lv_at hl 1 rfl) ?_
  refine gf_X3_17 C hR hp1 rfl dX3_liesWithin_5 ?_
  refine lv_icmp_ne (tgt := 71) hx hb dX3_liesWithin_8 (by decide) (fun c_8 => ?_) (fun c_8 => ?_)
  · refine lv_iconst (v := 0) hx hb dX3_liesWithin_71 (by decide) ?_
    exact ro_zret C hr hlk rfl (bI_f (by simp [pWin, c_8])) dX3_liesWithin_72
  · refine lv_aload_n hx hb dX3_liesWithin_11 rfl (lv_at hl 0 rfl) ?_
    refine gf_X3_13 C hR hp rfl dX3_liesWithin_12 ?_
    refine gf_X3_57 C hR hc rfl dX3_liesWithin_15 ?_
    refine lv_aload_n hx hb dX3_liesWithin_18 rfl (lv_at hl 1 rfl) ?_
    refine gf_X3_13 C hR hp1 rfl dX3_liesWithin_19 ?_
    refine gf_X3_57 C hR hc1 rfl dX3_liesWithin_22 ?_
    refine lv_icmp_ge (tgt := 71) hx hb dX3_liesWithin_25 (by decide) (fun c_25 => ?_) (fun c_25 => ?_)
    · refine lv_iconst (v := 0) hx hb dX3_liesWithin_71 (by decide) ?_
      exact ro_zret C hr hlk rfl (bI_f (by simp [pWin, c_8, c_25])) dX3_liesWithin_72
    · refine lv_aload_n hx hb dX3_liesWithin_28 rfl (lv_at hl 0 rfl) ?_
      refine gf_X3_13 C hR hp rfl dX3_liesWithin_29 ?_
      refine gf_X3_60 C hR hc rfl dX3_liesWithin_32 ?_
      refine lv_aload_n hx hb dX3_liesWithin_35 rfl (lv_at hl 1 rfl) ?_
      refine gf_X3_13 C hR hp1 rfl dX3_liesWithin_36 ?_
      refine gf_X3_60 C hR hc1 rfl dX3_liesWithin_39 ?_
      refine lv_icmp_ne (tgt := 71) hx hb dX3_liesWithin_42 (by decide) (fun c_42 => ?_) (fun c_42 => ?_)
      · refine lv_iconst (v := 0) hx hb dX3_liesWithin_71 (by decide) ?_
        exact ro_zret C hr hlk rfl (bI_f (by simp [pWin, c_8, c_25, c_42])) dX3_liesWithin_72
      · refine lv_aload_n hx hb dX3_liesWithin_45 rfl (lv_at hl 0 rfl) ?_
        refine gf_X3_20 C hR hp rfl dX3_liesWithin_46 ?_
        refine lv_aload_n hx hb dX3_liesWithin_49 rfl (lv_at hl 1 rfl) ?_
        refine gf_X3_20 C hR hp1 rfl dX3_liesWithin_50 ?_
        refine lv_icmp_lt (tgt := 71) hx hb dX3_liesWithin_53 (by decide) (fun c_53 => ?_) (fun c_53 => ?_)
        · refine lv_iconst (v := 0) hx hb dX3_liesWithin_71 (by decide) ?_
          exact ro_zret C hr hlk rfl (bI_f (by simp [pWin, c_8, c_25, c_42, c_53])) dX3_liesWithin_72
        · refine lv_aload_n hx hb dX3_liesWithin_56 rfl (lv_at hl 0 rfl) ?_
          refine gf_X3_26 C hR hp rfl dX3_liesWithin_57 ?_
          refine lv_aload_n hx hb dX3_liesWithin_60 rfl (lv_at hl 1 rfl) ?_
          refine gf_X3_26 C hR hp1 rfl dX3_liesWithin_61 ?_
          refine lv_icmp_gt (tgt := 71) hx hb dX3_liesWithin_64 (by decide) (fun c_64 => ?_) (fun c_64 => ?_)
          · refine lv_iconst (v := 0) hx hb dX3_liesWithin_71 (by decide) ?_
            exact ro_zret C hr hlk rfl (bI_f (by simp [pWin, c_8, c_25, c_42, c_53, c_64])) dX3_liesWithin_72
          · refine lv_iconst (v := 1) hx hb dX3_liesWithin_67 (by decide) ?_
            refine lv_goto (tgt := 72) hx hb dX3_liesWithin_68 (by decide) ?_
            exact ro_zret C hr hlk rfl (bI_t (by simp [pWin, c_8, c_25, c_42, c_53, c_64])) dX3_liesWithin_72

theorem ne_fa {M : wM} {a b xa ya n : Nat} {f g : Nat → Int32} {cs : Nat → ClassId} (ha : M a = some (figC f xa ya)) (hb : M b = some (arC cs n g)) : a ≠ b := fun z => by
  rw [z, hb] at ha
  unfold arC figC at ha
  cases ha
theorem ne_pa {M : wM} {a b ca ha n : Nat} {f g : Nat → Int32} {cs : Nat → ClassId} (hp : M a = some (parC f ca ha)) (hb : M b = some (arC cs n g)) : a ≠ b := fun z => by
  rw [z, hb] at hp
  unfold arC parC at hp
  cases hp
theorem ne_pf {M : wM} {a b ca ha xb yb : Nat} {f g : Nat → Int32} (hp : M a = some (parC f ca ha)) (hb : M b = some (figC g xb yb)) : a ≠ b := fun z => by
  rw [z, hb] at hp
  unfold figC parC at hp
  cases hp
theorem ne_ca {M : wM} {a b ca ha n : Nat} {f g : Nat → Int32} {cs : Nat → ClassId} (hp : M a = some (curC f ca ha)) (hb : M b = some (arC cs n g)) : a ≠ b := fun z => by
  rw [z, hb] at hp
  unfold arC curC at hp
  cases hp
theorem ne_cf {M : wM} {a b ca ha xb yb : Nat} {f g : Nat → Int32} (hp : M a = some (curC f ca ha)) (hb : M b = some (figC g xb yb)) : a ≠ b := fun z => by
  rw [z, hb] at hp
  unfold figC curC at hp
  cases hp
theorem va_up_same {M : wM} {a : Nat} {e : va_E} (h : M a = some e) : va_up M a (some e) = M := by
  funext j
  by_cases z : j = a
  · rw [z, va_up_self, h]
  · rw [va_up_ne _ _ z]
theorem figC_congr {f g : Nat → Int32} (xa ya : Nat) (h0 : f 0 = g 0) (h3 : f 3 = g 3) (h4 : f 4 = g 4) (h5 : f 5 = g 5) (h6 : f 6 = g 6) : figC f xa ya = figC g xa ya := by
  unfold figC
  rw [h0, h3, h4, h5, h6]
def mn (g : Nat → Int32) : Nat → Int32
  | 0 => g 0
  | i + 1 => if g (i + 1) < mn g i then g (i + 1) else mn g i
def mx (g : Nat → Int32) : Nat → Int32
  | 0 => g 0
  | i + 1 => if mx g i < g (i + 1) then g (i + 1) else mx g i
def frF (l : Int32) (gx gy : Nat → Int32) (j : Nat) : Nat → Int32 := fun k => if k = 0 then l else if k = 3 then mn gx j else if k = 4 then mx gx j else if k = 5 then mn gy j else mx gy j
set_option maxHeartbeats 4000000 in
set_option maxRecDepth 100000 in
theorem c_X1_setCorner (l : Launch) (D : va_G) (cs : Nat → ClassId) (A : Nat → Prop) (M : wM) (a xa ya n : Nat) (f gx gy : Nat → Int32) (ha : M a = some (figC f xa ya)) (hxa : M xa = some (arC cs n gx)) (hya : M ya = some (arC cs n gy)) (hn4 : n ≤ 4) (hxy : xa ≠ ya) (i : Nat) (hi : i < n) (x y : Int32) : Met l yX1_setCorner (mw yX1_setCorner cX1_setCorner 4 none) { frames := 0, cells := 0, slots := 0, locals := 0 } (wrP D cs A M [.ref a, .int (nI i), .int x, .int y]) (va_Qv (fun M' => M' = va_up (va_up M xa (some (arC cs n (upd gx i x)))) ya (some (arC cs n (upd gy i y)))) (wrB D A) A) 0 0 A := by
  refine wr_met rfl (Nat.le_of_ble_eq_true rfl) ?_
  intro p e s m below meth c ls C hW hr hlk hini hl
  have C : kx D cs p m c cX1_setCorner 4 s _ RX1 := C
  have hx := C.1.1
  have hb := C.1.2.1
  have hl : lv_has ls 4 [(0, .ref a), (1, .int (nI i)), (2, .int x), (3, .int y)] := hl
  refine lv_iload_n hx hb dX1_setCorner_0 rfl (lv_at hl 1 rfl) ?_
  refine lv_if_lt (tgt := 27) hx hb dX1_setCorner_1 (by decide) (fun c_1 => ?_) (fun c_1 => ?_)
  · exact absurd (clt_t (a := i) (b := 0) c_1 (by omega) (by omega)) (by omega)
  · have c_1 := clt_f (a := i) (b := 0) c_1 (by omega) (by omega)
    refine lv_iload_n hx hb dX1_setCorner_4 rfl (lv_at hl 1 rfl) ?_
    refine lv_aload_n hx hb dX1_setCorner_5 rfl (lv_at hl 0 rfl) ?_
    refine gf_X1_13 C hW.rd ha rfl dX1_setCorner_6 ?_
    refine r_alen C hW.rd 0 hxa rfl (v := nI n) rfl dX1_setCorner_9 ?_
    refine lv_icmp_ge (tgt := 27) hx hb dX1_setCorner_10 (by decide) (fun c_10 => ?_) (fun c_10 => ?_)
    · exact absurd (cle_t (a := n) (b := i) c_10 (by omega) (by omega)) (by omega)
    · have c_10 := cle_f (a := n) (b := i) c_10 (by omega) (by omega)
      refine lv_aload_n hx hb dX1_setCorner_13 rfl (lv_at hl 0 rfl) ?_
      refine gf_X1_13 C hW.rd ha rfl dX1_setCorner_14 ?_
      refine lv_iload_n hx hb dX1_setCorner_17 rfl (lv_at hl 1 rfl) ?_
      refine lv_iload_n hx hb dX1_setCorner_18 rfl (lv_at hl 2 rfl) ?_
      refine w_iastN (k := i) C hW hxa (by omega) (by omega) rfl dX1_setCorner_19 (fun H locs hW => ?_)
      refine lv_aload_n hx hb dX1_setCorner_20 rfl (lv_at hl 0 rfl) ?_
      refine gf_X1_17 C hW.rd ((va_up_ne _ _ (ne_fa ha hxa)).trans ha) rfl dX1_setCorner_21 ?_
      refine lv_iload_n hx hb dX1_setCorner_24 rfl (lv_at hl 1 rfl) ?_
      refine lv_iload_n hx hb dX1_setCorner_25 rfl (lv_at hl 3 rfl) ?_
      refine w_iastN (k := i) C hW ((va_up_ne _ _ (fun z => hxy z.symm)).trans hya) (by omega) (by omega) rfl dX1_setCorner_26 (fun H locs hW => ?_)
      exact wr_vret C hW hr hlk rfl dX1_setCorner_27

set_option maxHeartbeats 4000000 in
set_option maxRecDepth 100000 in
theorem c_X1_setFrame (l : Launch) (D : va_G) (cs : Nat → ClassId) (A : Nat → Prop) (M : wM) (a xa ya n : Nat) (f gx gy : Nat → Int32) (ha : M a = some (figC f xa ya)) (hxa : M xa = some (arC cs n gx)) (hya : M ya = some (arC cs n gy)) (hn4 : n ≤ 4) (hn1 : 1 ≤ n) : Met l yX1_setFrame (mw yX1_setFrame cX1_setFrame 2 none) { frames := 1, cells := 0, slots := 0, locals := 21 } (wrP D cs A M [.ref a]) (va_Qv (fun M' => M' = va_up M a (some (figC (frF (f 0) gx gy (n - 1)) xa ya))) (wrB D A) A) 0 0 A := by
  refine wr_met rfl (Nat.le_of_ble_eq_true rfl) ?_
  intro p e s m below meth c ls C hW hr hlk hini hl
  have C : kx D cs p m c cX1_setFrame 2 s _ RX1 := C
  have hx := C.1.1
  have hb := C.1.2.1
  have hl : lv_has ls 2 [(0, .ref a)] := hl
  have ha1 := ha
  have hxa1 := hxa
  have hya1 := hya
  have eM : M = va_up M a (some (figC f xa ya)) := (va_up_same ha).symm
  refine lv_aload_n hx hb dX1_setFrame_0 rfl (lv_at hl 0 rfl) ?_
  refine lv_aload_n hx hb dX1_setFrame_1 rfl (lv_at hl 0 rfl) ?_
  refine gf_X1_13 C hW.rd ha1 rfl dX1_setFrame_2 ?_
  refine lv_iconst (v := 0) hx hb dX1_setFrame_5 (by decide) ?_
  refine r_ialdN (k := 0) C hW.rd hxa1 (by omega) (by omega) rfl dX1_setFrame_6 ?_
  refine pf_X1_30 (fs2 := [.int ((va_up f 3 (gx 0)) 0), .ref xa, .ref ya, .int ((va_up f 3 (gx 0)) 3), .int ((va_up f 3 (gx 0)) 4), .int ((va_up f 3 (gx 0)) 5), .int ((va_up f 3 (gx 0)) 6)]) C hW ha1 (Nat.le_of_ble_eq_true rfl) rfl dX1_setFrame_7 (fun H locs hW => ?_)
  obtain ⟨M1, f_1, ef_1, eM, hW⟩ : ∃ (M1 : wM) (f9 : Nat → Int32), f9 = va_up f 3 (gx 0) ∧ M1 = va_up M a (some (figC f9 xa ya)) ∧ wd D A M1 s.heap H locs := ⟨_, _, rfl, rfl, by first | exact hW | (rw [eM, bx_uu] at hW; exact hW)⟩
  have ha1 : M1 a = some (figC f_1 xa ya) := by rw [eM, va_up_self]
  have hxa1 : M1 xa = some (arC cs n gx) := by rw [eM, va_up_ne _ _ (ne_fa ha hxa).symm]; exact hxa
  have hya1 : M1 ya = some (arC cs n gy) := by rw [eM, va_up_ne _ _ (ne_fa ha hya).symm]; exact hya
  refine lv_aload_n hx hb dX1_setFrame_10 rfl (lv_at hl 0 rfl) ?_
  refine lv_aload_n hx hb dX1_setFrame_11 rfl (lv_at hl 0 rfl) ?_
  refine gf_X1_13 C hW.rd ha1 rfl dX1_setFrame_12 ?_
  refine lv_iconst (v := 0) hx hb dX1_setFrame_15 (by decide) ?_
  refine r_ialdN (k := 0) C hW.rd hxa1 (by omega) (by omega) rfl dX1_setFrame_16 ?_
  refine pf_X1_33 (fs2 := [.int ((va_up f_1 4 (gx 0)) 0), .ref xa, .ref ya, .int ((va_up f_1 4 (gx 0)) 3), .int ((va_up f_1 4 (gx 0)) 4), .int ((va_up f_1 4 (gx 0)) 5), .int ((va_up f_1 4 (gx 0)) 6)]) C hW ha1 (Nat.le_of_ble_eq_true rfl) rfl dX1_setFrame_17 (fun H locs hW => ?_)
  obtain ⟨M1, f_2, ef_2, eM, hW⟩ : ∃ (M1 : wM) (f9 : Nat → Int32), f9 = va_up f_1 4 (gx 0) ∧ M1 = va_up M a (some (figC f9 xa ya)) ∧ wd D A M1 s.heap H locs := ⟨_, _, rfl, rfl, by first | exact hW | (rw [eM, bx_uu] at hW; exact hW)⟩
  have ha1 : M1 a = some (figC f_2 xa ya) := by rw [eM, va_up_self]
  have hxa1 : M1 xa = some (arC cs n gx) := by rw [eM, va_up_ne _ _ (ne_fa ha hxa).symm]; exact hxa
  have hya1 : M1 ya = some (arC cs n gy) := by rw [eM, va_up_ne _ _ (ne_fa ha hya).symm]; exact hya
  refine lv_aload_n hx hb dX1_setFrame_20 rfl (lv_at hl 0 rfl) ?_
  refine lv_aload_n hx hb dX1_setFrame_21 rfl (lv_at hl 0 rfl) ?_
  refine gf_X1_17 C hW.rd ha1 rfl dX1_setFrame_22 ?_
  refine lv_iconst (v := 0) hx hb dX1_setFrame_25 (by decide) ?_
  refine r_ialdN (k := 0) C hW.rd hya1 (by omega) (by omega) rfl dX1_setFrame_26 ?_
  refine pf_X1_36 (fs2 := [.int ((va_up f_2 5 (gy 0)) 0), .ref xa, .ref ya, .int ((va_up f_2 5 (gy 0)) 3), .int ((va_up f_2 5 (gy 0)) 4), .int ((va_up f_2 5 (gy 0)) 5), .int ((va_up f_2 5 (gy 0)) 6)]) C hW ha1 (Nat.le_of_ble_eq_true rfl) rfl dX1_setFrame_27 (fun H locs hW => ?_)
  obtain ⟨M1, f_3, ef_3, eM, hW⟩ : ∃ (M1 : wM) (f9 : Nat → Int32), f9 = va_up f_2 5 (gy 0) ∧ M1 = va_up M a (some (figC f9 xa ya)) ∧ wd D A M1 s.heap H locs := ⟨_, _, rfl, rfl, by first | exact hW | (rw [eM, bx_uu] at hW; exact hW)⟩
  have ha1 : M1 a = some (figC f_3 xa ya) := by rw [eM, va_up_self]
  have hxa1 : M1 xa = some (arC cs n gx) := by rw [eM, va_up_ne _ _ (ne_fa ha hxa).symm]; exact hxa
  have hya1 : M1 ya = some (arC cs n gy) := by rw [eM, va_up_ne _ _ (ne_fa ha hya).symm]; exact hya
  refine lv_aload_n hx hb dX1_setFrame_30 rfl (lv_at hl 0 rfl) ?_
  refine lv_aload_n hx hb dX1_setFrame_31 rfl (lv_at hl 0 rfl) ?_
  refine gf_X1_17 C hW.rd ha1 rfl dX1_setFrame_32 ?_
  refine lv_iconst (v := 0) hx hb dX1_setFrame_35 (by decide) ?_
  refine r_ialdN (k := 0) C hW.rd hya1 (by omega) (by omega) rfl dX1_setFrame_36 ?_
  refine pf_X1_39 (fs2 := [.int ((va_up f_3 6 (gy 0)) 0), .ref xa, .ref ya, .int ((va_up f_3 6 (gy 0)) 3), .int ((va_up f_3 6 (gy 0)) 4), .int ((va_up f_3 6 (gy 0)) 5), .int ((va_up f_3 6 (gy 0)) 6)]) C hW ha1 (Nat.le_of_ble_eq_true rfl) rfl dX1_setFrame_37 (fun H locs hW => ?_)
  obtain ⟨M1, f_4, ef_4, eM, hW⟩ : ∃ (M1 : wM) (f9 : Nat → Int32), f9 = va_up f_3 6 (gy 0) ∧ M1 = va_up M a (some (figC f9 xa ya)) ∧ wd D A M1 s.heap H locs := ⟨_, _, rfl, rfl, by first | exact hW | (rw [eM, bx_uu] at hW; exact hW)⟩
  have ha1 : M1 a = some (figC f_4 xa ya) := by rw [eM, va_up_self]
  have hxa1 : M1 xa = some (arC cs n gx) := by rw [eM, va_up_ne _ _ (ne_fa ha hxa).symm]; exact hxa
  have hya1 : M1 ya = some (arC cs n gy) := by rw [eM, va_up_ne _ _ (ne_fa ha hya).symm]; exact hya
  refine lv_iconst (v := 1) hx hb dX1_setFrame_40 (by decide) ?_
  refine lv_istore_n (lv' := [(1, .int 1), (0, .ref a)]) hx hb dX1_setFrame_41 rfl hl (by decide) rfl (fun ls hl => ?_)
  refine W.loopW (σ := Nat × (Nat → Int32) × Heap × List Loc × wM × Array Slot) (fun ⟨j0, f1, H, locs, M1, ls⟩ => F0 m 42 ls []) (fun ⟨j0, f1, H, locs, M1, ls⟩ => H) (fun ⟨j0, f1, H, locs, M1, ls⟩ => locs) (fun ⟨j0, f1, H, locs, M1, ls⟩ => (j0 + 1 ≤ n) ∧ (f1 0 = f 0) ∧ (f1 3 = mn gx j0) ∧ (f1 4 = mx gx j0) ∧ (f1 5 = mn gy j0) ∧ (f1 6 = mx gy j0) ∧ (M1 = va_up M a (some (figC f1 xa ya))) ∧ wd D A M1 s.heap H locs ∧ lv_has ls 2 [(1, .int (nI (j0 + 1))), (0, .ref a)]) (fun ⟨j0, f1, H, locs, M1, ls⟩ => n - j0) ?_ (0, f_4, _, _, _, _) ⟨by omega, by rw [ef_4, ef_3, ef_2, ef_1]; rfl, by rw [ef_4, ef_3, ef_2, ef_1]; rfl, by rw [ef_4, ef_3, ef_2, ef_1]; rfl, by rw [ef_4, ef_3, ef_2, ef_1]; rfl, by rw [ef_4, ef_3, ef_2, ef_1]; rfl, eM, hW, lv_sub hl [0, 1] rfl⟩ rfl rfl rfl
  intro ⟨j0, f1, H, locs, M1, ls⟩ ⟨hj0, e0, e3, e4, e5, e6, eM, hW, hl⟩ ih_42
  show W _ _ _ _ _ _ _ _ _ _ H locs _ _ _ (F0 m 42 ls [])
  have hl : lv_has ls 2 [(1, .int (nI (j0 + 1))), (0, .ref a)] := hl
  have ha1 : M1 a = some (figC f1 xa ya) := by rw [eM, va_up_self]
  have hxa1 : M1 xa = some (arC cs n gx) := by rw [eM, va_up_ne _ _ (ne_fa ha hxa).symm]; exact hxa
  have hya1 : M1 ya = some (arC cs n gy) := by rw [eM, va_up_ne _ _ (ne_fa ha hya).symm]; exact hya
  refine lv_iload_n hx hb dX1_setFrame_42 rfl (lv_at hl 0 rfl) ?_
  refine lv_aload_n hx hb dX1_setFrame_43 rfl (lv_at hl 1 rfl) ?_
  refine gf_X1_13 C hW.rd ha1 rfl dX1_setFrame_44 ?_
  refine r_alen C hW.rd 0 hxa1 rfl (v := nI n) rfl dX1_setFrame_47 ?_
  refine lv_icmp_ge (tgt := 125) hx hb dX1_setFrame_48 (by decide) (fun c_48 => ?_) (fun c_48 => ?_)
  · have c_48 := cle_t (a := n) (b := (j0 + 1)) c_48 (by omega) (by omega)
    exact wr_vret C hW hr hlk (by rw [eM, figC_congr xa ya (g := frF (f 0) gx gy (n - 1)) e0 (by rw [show n - 1 = j0 by omega]; exact e3) (by rw [show n - 1 = j0 by omega]; exact e4) (by rw [show n - 1 = j0 by omega]; exact e5) (by rw [show n - 1 = j0 by omega]; exact e6)]) dX1_setFrame_125
  · have c_48 := cle_f (a := n) (b := (j0 + 1)) c_48 (by omega) (by omega)
    refine lv_aload_n hx hb dX1_setFrame_51 rfl (lv_at hl 1 rfl) ?_
    refine lv_aload_n hx hb dX1_setFrame_52 rfl (lv_at hl 1 rfl) ?_
    refine gf_X1_30 C hW.rd ha1 rfl dX1_setFrame_53 ?_
    refine lv_aload_n hx hb dX1_setFrame_56 rfl (lv_at hl 1 rfl) ?_
    refine gf_X1_13 C hW.rd ha1 rfl dX1_setFrame_57 ?_
    refine lv_iload_n hx hb dX1_setFrame_60 rfl (lv_at hl 0 rfl) ?_
    refine r_ialdN (k := (j0 + 1)) C hW.rd hxa1 (by omega) (by omega) rfl dX1_setFrame_61 ?_
    refine va_mmin hx hb (by rw [C.1.2.2.1]; exact hl.1.symm) C.1.2.2.2.1 (C.1.2.2.2.2 _ wm_149) (C.1.2.2.2.2 _ wm_150) (C.1.2.2.2.2 _ wm_151) (C.1.2.2.2.2 _ wm_152) (Nat.le_of_ble_eq_true rfl) (Nat.le_of_ble_eq_true rfl) (by decide) (by decide) dX1_setFrame_62 ?_
    refine pf_X1_30 (fs2 := [.int ((va_up f1 3 (if (gx (j0 + 1)) < (f1 3) then (gx (j0 + 1)) else (f1 3))) 0), .ref xa, .ref ya, .int ((va_up f1 3 (if (gx (j0 + 1)) < (f1 3) then (gx (j0 + 1)) else (f1 3))) 3), .int ((va_up f1 3 (if (gx (j0 + 1)) < (f1 3) then (gx (j0 + 1)) else (f1 3))) 4), .int ((va_up f1 3 (if (gx (j0 + 1)) < (f1 3) then (gx (j0 + 1)) else (f1 3))) 5), .int ((va_up f1 3 (if (gx (j0 + 1)) < (f1 3) then (gx (j0 + 1)) else (f1 3))) 6)]) C hW ha1 (Nat.le_of_ble_eq_true rfl) rfl dX1_setFrame_65 (fun H locs hW => ?_)
    obtain ⟨M1, f_5, ef_5, eM, hW⟩ : ∃ (M1 : wM) (f9 : Nat → Int32), f9 = va_up f1 3 (if (gx (j0 + 1)) < (f1 3) then (gx (j0 + 1)) else (f1 3)) ∧ M1 = va_up M a (some (figC f9 xa ya)) ∧ wd D A M1 s.heap H locs := ⟨_, _, rfl, rfl, by first | exact hW | (rw [eM, bx_uu] at hW; exact hW)⟩
    have ha1 : M1 a = some (figC f_5 xa ya) := by rw [eM, va_up_self]
    have hxa1 : M1 xa = some (arC cs n gx) := by rw [eM, va_up_ne _ _ (ne_fa ha hxa).symm]; exact hxa
    have hya1 : M1 ya = some (arC cs n gy) := by rw [eM, va_up_ne _ _ (ne_fa ha hya).symm]; exact hya
    refine lv_aload_n hx hb dX1_setFrame_68 rfl (lv_at hl 1 rfl) ?_
    refine lv_aload_n hx hb dX1_setFrame_69 rfl (lv_at hl 1 rfl) ?_
    refine gf_X1_33 C hW.rd ha1 rfl dX1_setFrame_70 ?_
    refine lv_aload_n hx hb dX1_setFrame_73 rfl (lv_at hl 1 rfl) ?_
    refine gf_X1_13 C hW.rd ha1 rfl dX1_setFrame_74 ?_
    refine lv_iload_n hx hb dX1_setFrame_77 rfl (lv_at hl 0 rfl) ?_
    refine r_ialdN (k := (j0 + 1)) C hW.rd hxa1 (by omega) (by omega) rfl dX1_setFrame_78 ?_
    refine va_mmax hx hb (by rw [C.1.2.2.1]; exact hl.1.symm) C.1.2.2.2.1 (C.1.2.2.2.2 _ wm_153) (C.1.2.2.2.2 _ wm_154) (C.1.2.2.2.2 _ wm_151) (C.1.2.2.2.2 _ wm_155) (Nat.le_of_ble_eq_true rfl) (Nat.le_of_ble_eq_true rfl) (by decide) (by decide) dX1_setFrame_79 ?_
    refine pf_X1_33 (fs2 := [.int ((va_up f_5 4 (if (f_5 4) < (gx (j0 + 1)) then (gx (j0 + 1)) else (f_5 4))) 0), .ref xa, .ref ya, .int ((va_up f_5 4 (if (f_5 4) < (gx (j0 + 1)) then (gx (j0 + 1)) else (f_5 4))) 3), .int ((va_up f_5 4 (if (f_5 4) < (gx (j0 + 1)) then (gx (j0 + 1)) else (f_5 4))) 4), .int ((va_up f_5 4 (if (f_5 4) < (gx (j0 + 1)) then (gx (j0 + 1)) else (f_5 4))) 5), .int ((va_up f_5 4 (if (f_5 4) < (gx (j0 + 1)) then (gx (j0 + 1)) else (f_5 4))) 6)]) C hW ha1 (Nat.le_of_ble_eq_true rfl) rfl dX1_setFrame_82 (fun H locs hW => ?_)
    obtain ⟨M1, f_6, ef_6, eM, hW⟩ : ∃ (M1 : wM) (f9 : Nat → Int32), f9 = va_up f_5 4 (if (f_5 4) < (gx (j0 + 1)) then (gx (j0 + 1)) else (f_5 4)) ∧ M1 = va_up M a (some (figC f9 xa ya)) ∧ wd D A M1 s.heap H locs := ⟨_, _, rfl, rfl, by first | exact hW | (rw [eM, bx_uu] at hW; exact hW)⟩
    have ha1 : M1 a = some (figC f_6 xa ya) := by rw [eM, va_up_self]
    have hxa1 : M1 xa = some (arC cs n gx) := by rw [eM, va_up_ne _ _ (ne_fa ha hxa).symm]; exact hxa
    have hya1 : M1 ya = some (arC cs n gy) := by rw [eM, va_up_ne _ _ (ne_fa ha hya).symm]; exact hya
    refine lv_aload_n hx hb dX1_setFrame_85 rfl (lv_at hl 1 rfl) ?_
    refine lv_aload_n hx hb dX1_setFrame_86 rfl (lv_at hl 1 rfl) ?_
    refine gf_X1_36 C hW.rd ha1 rfl dX1_setFrame_87 ?_
    refine lv_aload_n hx hb dX1_setFrame_90 rfl (lv_at hl 1 rfl) ?_
    refine gf_X1_17 C hW.rd ha1 rfl dX1_setFrame_91 ?_
    refine lv_iload_n hx hb dX1_setFrame_94 rfl (lv_at hl 0 rfl) ?_
    refine r_ialdN (k := (j0 + 1)) C hW.rd hya1 (by omega) (by omega) rfl dX1_setFrame_95 ?_
    refine va_mmin hx hb (by rw [C.1.2.2.1]; exact hl.1.symm) C.1.2.2.2.1 (C.1.2.2.2.2 _ wm_149) (C.1.2.2.2.2 _ wm_150) (C.1.2.2.2.2 _ wm_151) (C.1.2.2.2.2 _ wm_152) (Nat.le_of_ble_eq_true rfl) (Nat.le_of_ble_eq_true rfl) (by decide) (by decide) dX1_setFrame_96 ?_
    refine pf_X1_36 (fs2 := [.int ((va_up f_6 5 (if (gy (j0 + 1)) < (f_6 5) then (gy (j0 + 1)) else (f_6 5))) 0), .ref xa, .ref ya, .int ((va_up f_6 5 (if (gy (j0 + 1)) < (f_6 5) then (gy (j0 + 1)) else (f_6 5))) 3), .int ((va_up f_6 5 (if (gy (j0 + 1)) < (f_6 5) then (gy (j0 + 1)) else (f_6 5))) 4), .int ((va_up f_6 5 (if (gy (j0 + 1)) < (f_6 5) then (gy (j0 + 1)) else (f_6 5))) 5), .int ((va_up f_6 5 (if (gy (j0 + 1)) < (f_6 5) then (gy (j0 + 1)) else (f_6 5))) 6)]) C hW ha1 (Nat.le_of_ble_eq_true rfl) rfl dX1_setFrame_99 (fun H locs hW => ?_)
    obtain ⟨M1, f_7, ef_7, eM, hW⟩ : ∃ (M1 : wM) (f9 : Nat → Int32), f9 = va_up f_6 5 (if (gy (j0 + 1)) < (f_6 5) then (gy (j0 + 1)) else (f_6 5)) ∧ M1 = va_up M a (some (figC f9 xa ya)) ∧ wd D A M1 s.heap H locs := ⟨_, _, rfl, rfl, by first | exact hW | (rw [eM, bx_uu] at hW; exact hW)⟩
    have ha1 : M1 a = some (figC f_7 xa ya) := by rw [eM, va_up_self]
    have hxa1 : M1 xa = some (arC cs n gx) := by rw [eM, va_up_ne _ _ (ne_fa ha hxa).symm]; exact hxa
    have hya1 : M1 ya = some (arC cs n gy) := by rw [eM, va_up_ne _ _ (ne_fa ha hya).symm]; exact hya
    refine lv_aload_n hx hb dX1_setFrame_102 rfl (lv_at hl 1 rfl) ?_
    refine lv_aload_n hx hb dX1_setFrame_103 rfl (lv_at hl 1 rfl) ?_
    refine gf_X1_39 C hW.rd ha1 rfl dX1_setFrame_104 ?_
    refine lv_aload_n hx hb dX1_setFrame_107 rfl (lv_at hl 1 rfl) ?_
    refine gf_X1_17 C hW.rd ha1 rfl dX1_setFrame_108 ?_
    refine lv_iload_n hx hb dX1_setFrame_111 rfl (lv_at hl 0 rfl) ?_
    refine r_ialdN (k := (j0 + 1)) C hW.rd hya1 (by omega) (by omega) rfl dX1_setFrame_112 ?_
    refine va_mmax hx hb (by rw [C.1.2.2.1]; exact hl.1.symm) C.1.2.2.2.1 (C.1.2.2.2.2 _ wm_153) (C.1.2.2.2.2 _ wm_154) (C.1.2.2.2.2 _ wm_151) (C.1.2.2.2.2 _ wm_155) (Nat.le_of_ble_eq_true rfl) (Nat.le_of_ble_eq_true rfl) (by decide) (by decide) dX1_setFrame_113 ?_
    refine pf_X1_39 (fs2 := [.int ((va_up f_7 6 (if (f_7 6) < (gy (j0 + 1)) then (gy (j0 + 1)) else (f_7 6))) 0), .ref xa, .ref ya, .int ((va_up f_7 6 (if (f_7 6) < (gy (j0 + 1)) then (gy (j0 + 1)) else (f_7 6))) 3), .int ((va_up f_7 6 (if (f_7 6) < (gy (j0 + 1)) then (gy (j0 + 1)) else (f_7 6))) 4), .int ((va_up f_7 6 (if (f_7 6) < (gy (j0 + 1)) then (gy (j0 + 1)) else (f_7 6))) 5), .int ((va_up f_7 6 (if (f_7 6) < (gy (j0 + 1)) then (gy (j0 + 1)) else (f_7 6))) 6)]) C hW ha1 (Nat.le_of_ble_eq_true rfl) rfl dX1_setFrame_116 (fun H locs hW => ?_)
    obtain ⟨M1, f_8, ef_8, eM, hW⟩ : ∃ (M1 : wM) (f9 : Nat → Int32), f9 = va_up f_7 6 (if (f_7 6) < (gy (j0 + 1)) then (gy (j0 + 1)) else (f_7 6)) ∧ M1 = va_up M a (some (figC f9 xa ya)) ∧ wd D A M1 s.heap H locs := ⟨_, _, rfl, rfl, by first | exact hW | (rw [eM, bx_uu] at hW; exact hW)⟩
    have ha1 : M1 a = some (figC f_8 xa ya) := by rw [eM, va_up_self]
    have hxa1 : M1 xa = some (arC cs n gx) := by rw [eM, va_up_ne _ _ (ne_fa ha hxa).symm]; exact hxa
    have hya1 : M1 ya = some (arC cs n gy) := by rw [eM, va_up_ne _ _ (ne_fa ha hya).symm]; exact hya
    refine lv_iinc (v := nI ((j0 + 1) + 1)) (lv' := [(1, .int (nI ((j0 + 1) + 1))), (0, .ref a)]) hx hb dX1_setFrame_119 hl (k := 0) rfl (by exact tn_add rfl rfl) (by decide) rfl (fun ls hl => ?_)
    refine lv_goto (tgt := 42) hx hb dX1_setFrame_122 (by decide) ?_
    exact ih_42 ((j0 + 1), f_8, _, _, _, _) ⟨by omega, by rw [ef_8, ef_7, ef_6, ef_5]; exact e0, by rw [ef_8, ef_7, ef_6, ef_5, mn, ← e3]; rfl, by rw [ef_8, ef_7, ef_6, ef_5, mx, ← e4]; rfl, by rw [ef_8, ef_7, ef_6, ef_5, mn, ← e5]; rfl, by rw [ef_8, ef_7, ef_6, ef_5, mx, ← e6]; rfl, eM, hW, lv_sub hl [0, 1] rfl⟩ (by show n - (j0 + 1) < n - j0; omega)


/-- the reference's fields: numbers v, arrays at ad -/
def rFl (ad : Nat → Nat) (v : Nat → Int32) : List Value := [.int (v 0), .ref (ad 1), .int (v 2), .ref (ad 3), .ref (ad 4), .ref (ad 5), .ref (ad 6), .int (v 7), .ref (ad 8), .ref (ad 9), .ref (ad 10), .ref (ad 11), .ref (ad 12), .int (v 13), .ref (ad 14), .ref (ad 15), .ref (ad 16), .ref (ad 17), .ref (ad 18), .int (v 19), .ref (ad 20), .ref (ad 21), .ref (ad 22), .ref (ad 23), .ref (ad 24), .ref (ad 25), .ref (ad 26), .ref (ad 27), .ref (ad 28), .ref (ad 29), .ref (ad 30), .ref (ad 31), .ref (ad 32), .ref (ad 33), .ref (ad 34), .ref (ad 35)]
def rlen : Nat → Nat := fun k => match k with
  | 1 => 4
  | 3 => 60
  | 4 => 60
  | 5 => 60
  | 6 => 60
  | 8 => 40
  | 9 => 40
  | 10 => 40
  | 11 => 40
  | 12 => 40
  | 14 => 12
  | 15 => 12
  | 16 => 12
  | 17 => 12
  | 18 => 12
  | 20 => 40
  | 21 => 40
  | 22 => 40
  | 23 => 40
  | 24 => 40
  | 25 => 80
  | 26 => 80
  | 27 => 80
  | 28 => 80
  | 29 => 80
  | 30 => 80
  | 31 => 80
  | 32 => 4
  | 33 => 4
  | 34 => 4
  | 35 => 4
  | _ => 0
/-- what stands at a field: 0 ints, 1 longs, 2 booleans, 9 a number -/
def rK : Nat → Nat := fun k => match k with
  | 1 => 0
  | 3 => 0
  | 4 => 0
  | 5 => 0
  | 6 => 2
  | 8 => 0
  | 9 => 0
  | 10 => 0
  | 11 => 0
  | 12 => 0
  | 14 => 0
  | 15 => 0
  | 16 => 0
  | 17 => 0
  | 18 => 0
  | 20 => 0
  | 21 => 0
  | 22 => 2
  | 23 => 0
  | 24 => 0
  | 25 => 0
  | 26 => 0
  | 27 => 0
  | 28 => 0
  | 29 => 0
  | 30 => 0
  | 31 => 0
  | 32 => 1
  | 33 => 1
  | 34 => 1
  | 35 => 1
  | _ => 9
/-- the reference at X holds the numbers v, the rows F and G -/
def RS (cs : Nat → ClassId) (M : wM) (X : Nat) (ad : Nat → Nat) (v : Nat → Int32) (F : Nat → Nat → Int32) (G : Nat → Nat → Int64) : Prop :=
  M X = some (.inr (5, rFl ad v)) ∧ (∀ k, rK k = 0 → M (ad k) = some (.inl (cs 0, rlen k, .inl (F k)))) ∧ (∀ k, rK k = 2 → M (ad k) = some (.inl (cs 2, rlen k, .inl (F k)))) ∧ (∀ k, rK k = 1 → M (ad k) = some (.inl (cs 1, rlen k, .inr (.inl (G k))))) ∧ (∀ i j, ad i = ad j → rK i ≠ 9 → rK j ≠ 9 → i = j)
theorem RS.setI {cs : Nat → ClassId} {M : wM} {X : Nat} {ad : Nat → Nat} {v : Nat → Int32} {F : Nat → Nat → Int32} {G : Nat → Nat → Int64} (h : RS cs M X ad v F G) (k : Nat) (hk : rK k = 0) (i : Nat) (x : Int32) : RS cs (va_up M (ad k) (some (.inl (cs 0, rlen k, .inl (upd (F k) i x))))) X ad v (va_up F k (upd (F k) i x)) G := by
  obtain ⟨h1, h2, h3, h4, h5⟩ := h
  refine ⟨?_, fun j hj => ?_, fun j hj => ?_, fun j hj => ?_, h5⟩
  · rw [va_up_ne _ _ (fun q => by rw [q, h2 k hk] at h1; cases h1)]; exact h1
  · by_cases q : j = k
    · subst q; rw [va_up_self, va_up_self]
    · rw [va_up_ne _ _ (fun z => q (h5 _ _ z (by rw [hj]; decide) (by rw [hk]; decide))), va_up_ne _ _ q]; exact h2 j hj
  · have q : j ≠ k := fun z => by rw [z, hk] at hj; cases hj
    rw [va_up_ne _ _ (fun z => q (h5 _ _ z (by rw [hj]; decide) (by rw [hk]; decide))), va_up_ne _ _ q]; exact h3 j hj
  · have q : j ≠ k := fun z => by rw [z, hk] at hj; cases hj
    rw [va_up_ne _ _ (fun z => q (h5 _ _ z (by rw [hj]; decide) (by rw [hk]; decide)))]; exact h4 j hj
theorem RS.setZ {cs : Nat → ClassId} {M : wM} {X : Nat} {ad : Nat → Nat} {v : Nat → Int32} {F : Nat → Nat → Int32} {G : Nat → Nat → Int64} (h : RS cs M X ad v F G) (k : Nat) (hk : rK k = 2) (i : Nat) (x : Int32) : RS cs (va_up M (ad k) (some (.inl (cs 2, rlen k, .inl (upd (F k) i x))))) X ad v (va_up F k (upd (F k) i x)) G := by
  obtain ⟨h1, h2, h3, h4, h5⟩ := h
  refine ⟨?_, fun j hj => ?_, fun j hj => ?_, fun j hj => ?_, h5⟩
  · rw [va_up_ne _ _ (fun q => by rw [q, h3 k hk] at h1; cases h1)]; exact h1
  · have q : j ≠ k := fun z => by rw [z, hk] at hj; cases hj
    rw [va_up_ne _ _ (fun z => q (h5 _ _ z (by rw [hj]; decide) (by rw [hk]; decide))), va_up_ne _ _ q]; exact h2 j hj
  · by_cases q : j = k
    · subst q; rw [va_up_self, va_up_self]
    · rw [va_up_ne _ _ (fun z => q (h5 _ _ z (by rw [hj]; decide) (by rw [hk]; decide))), va_up_ne _ _ q]; exact h3 j hj
  · have q : j ≠ k := fun z => by rw [z, hk] at hj; cases hj
    rw [va_up_ne _ _ (fun z => q (h5 _ _ z (by rw [hj]; decide) (by rw [hk]; decide)))]; exact h4 j hj
theorem RS.setJ {cs : Nat → ClassId} {M : wM} {X : Nat} {ad : Nat → Nat} {v : Nat → Int32} {F : Nat → Nat → Int32} {G : Nat → Nat → Int64} (h : RS cs M X ad v F G) (k : Nat) (hk : rK k = 1) (i : Nat) (x : Int64) : RS cs (va_up M (ad k) (some (.inl (cs 1, rlen k, .inr (.inl (vp_updL (G k) i x)))))) X ad v F (va_up G k (vp_updL (G k) i x)) := by
  obtain ⟨h1, h2, h3, h4, h5⟩ := h
  refine ⟨?_, fun j hj => ?_, fun j hj => ?_, fun j hj => ?_, h5⟩
  · rw [va_up_ne _ _ (fun q => by rw [q, h4 k hk] at h1; cases h1)]; exact h1
  · have q : j ≠ k := fun z => by rw [z, hk] at hj; cases hj
    rw [va_up_ne _ _ (fun z => q (h5 _ _ z (by rw [hj]; decide) (by rw [hk]; decide)))]; exact h2 j hj
  · have q : j ≠ k := fun z => by rw [z, hk] at hj; cases hj
    rw [va_up_ne _ _ (fun z => q (h5 _ _ z (by rw [hj]; decide) (by rw [hk]; decide)))]; exact h3 j hj
  · by_cases q : j = k
    · subst q; rw [va_up_self, va_up_self]
    · rw [va_up_ne _ _ (fun z => q (h5 _ _ z (by rw [hj]; decide) (by rw [hk]; decide))), va_up_ne _ _ q]; exact h4 j hj
/-- a number is set -/
theorem RS.setV {cs : Nat → ClassId} {M : wM} {X : Nat} {ad : Nat → Nat} {v : Nat → Int32} {F : Nat → Nat → Int32} {G : Nat → Nat → Int64} (h : RS cs M X ad v F G) (k : Nat) (hk : rK k = 9) (x : Int32) : RS cs (va_up M X (some (.inr (5, rFl ad (va_up v k x))))) X ad (va_up v k x) F G := by
  obtain ⟨h1, h2, h3, h4, h5⟩ := h
  refine ⟨va_up_self _ _ _, fun j hj => ?_, fun j hj => ?_, fun j hj => ?_, h5⟩
  · rw [va_up_ne _ _ (fun q => by rw [← q, h2 j hj] at h1; cases h1)]; exact h2 j hj
  · rw [va_up_ne _ _ (fun q => by rw [← q, h3 j hj] at h1; cases h1)]; exact h3 j hj
  · rw [va_up_ne _ _ (fun q => by rw [← q, h4 j hj] at h1; cases h1)]; exact h4 j hj
theorem RS.i {cs : Nat → ClassId} {M : wM} {X : Nat} {ad : Nat → Nat} {v : Nat → Int32} {F : Nat → Nat → Int32} {G : Nat → Nat → Int64} (h : RS cs M X ad v F G) (k n : Nat) (hk : rK k = 0) (hn : rlen k = n) : M (ad k) = some (.inl (cs 0, n, .inl (F k))) := hn ▸ h.2.1 k hk
theorem RS.z {cs : Nat → ClassId} {M : wM} {X : Nat} {ad : Nat → Nat} {v : Nat → Int32} {F : Nat → Nat → Int32} {G : Nat → Nat → Int64} (h : RS cs M X ad v F G) (k n : Nat) (hk : rK k = 2) (hn : rlen k = n) : M (ad k) = some (.inl (cs 2, n, .inl (F k))) := hn ▸ h.2.2.1 k hk
theorem RS.j {cs : Nat → ClassId} {M : wM} {X : Nat} {ad : Nat → Nat} {v : Nat → Int32} {F : Nat → Nat → Int32} {G : Nat → Nat → Int64} (h : RS cs M X ad v F G) (k n : Nat) (hk : rK k = 1) (hn : rlen k = n) : M (ad k) = some (.inl (cs 1, n, .inr (.inl (G k)))) := hn ▸ h.2.2.2.1 k hk
def sF (F : Nat → Nat → Int32) (k i : Nat) (x : Int32) : Nat → Nat → Int32 := va_up F k (upd (F k) i x)
def sG (G : Nat → Nat → Int64) (k i : Nat) (x : Int64) : Nat → Nat → Int64 := va_up G k (vp_updL (G k) i x)
def inB (x lo hi : Int32) : Bool := decide (¬ x < lo ∧ ¬ hi < x)
def rArch (F : Nat → Nat → Int32) (k : Nat) : Int32 := if 20 ≤ 4 + (F 28 k - F 26 k) / 8 then 20 else 4 + (F 28 k - F 26 k) / 8
def rBad (q : Int32) : Int32 := 16 * (q - q / 8 * 8) * (q - q / 8 * 8) + 48 * (q / 8) * (q / 8)
def rPx (F : Nat → Nat → Int32) (k : Nat) (i : Int32) : Int32 := if i = 0 then F 26 k else if i = 1 then F 26 k + (F 28 k - F 26 k) / 4 else if i = 2 then F 28 k - (F 28 k - F 26 k) / 4 else F 28 k
def rPy (F : Nat → Nat → Int32) (k : Nat) (q i : Int32) : Int32 := if i = 0 then F 27 k + 4 * (q / 8) * F 23 (k / 2) else if i = 1 then F 27 k + 4 * (q / 8) * F 23 (k / 2) + (F 29 k + 4 * (q / 8) * F 23 (k / 2) - (F 27 k + 4 * (q / 8) * F 23 (k / 2))) / 4 + (rArch F k + 4 * (q - q / 8 * 8)) * F 23 (k / 2) else if i = 2 then F 29 k + 4 * (q / 8) * F 23 (k / 2) + (F 27 k + 4 * (q / 8) * F 23 (k / 2) - (F 29 k + 4 * (q / 8) * F 23 (k / 2))) / 4 + (rArch F k + 4 * (q - q / 8 * 8)) * F 23 (k / 2) else F 29 k + 4 * (q / 8) * F 23 (k / 2)
def rIn (F : Nat → Nat → Int32) (j k : Nat) : Bool := decide (j / 2 < k / 2 ∧ F 25 j = F 25 k ∧ F 23 (j / 2) = F 23 (k / 2) ∧ ¬ F 26 j < F 26 k ∧ ¬ F 28 k < F 28 j)
def rBefore (F : Nat → Nat → Int32) (a b : Nat) : Bool := decide (F 3 a < F 3 b ∨ (F 3 a = F 3 b ∧ ¬ F 4 b ≤ F 4 a))
set_option maxHeartbeats 4000000 in
set_option maxRecDepth 100000 in
theorem c_X5_in (l : Launch) (D : va_G) (cs : Nat → ClassId) (M : wM) (p0 p1 p2 : Int32) : Met l yX5_in (mw yX5_in cX5_in 3 (some .boolean)) { frames := 0, cells := 0, slots := 0, locals := 0 } (roP D cs M [.int p0, .int p1, .int p2]) (vp_Si (fun r => r = bI (inB p0 p1 p2 = true))) 0 0 noA := by
  refine ro_met rfl (Nat.le_of_ble_eq_true rfl) ?_
  intro p e s m below meth c ls C hR hr hlk hl
  have C : kx D cs p m c cX5_in 3 s _ RX5 := C
  have hx := C.1.1
  have hb := C.1.2.1
  have hl : lv_has ls 3 [(0, .int p0), (1, .int p1), (2, .int p2)] := hl
  refine lv_iload_n hx hb dX5_in_0 rfl (lv_at hl 0 rfl) ?_
  refine lv_iload_n hx hb dX5_in_1 rfl (lv_at hl 1 rfl) ?_
  refine lv_icmp_lt (tgt := 14) hx hb dX5_in_2 (by decide) (fun c_2 => ?_) (fun c_2 => ?_)
  · refine lv_iconst (v := 0) hx hb dX5_in_14 (by decide) ?_
    exact ro_zret C hr hlk rfl (bI_f (by simp [inB, c_2])) dX5_in_15
  · refine lv_iload_n hx hb dX5_in_5 rfl (lv_at hl 0 rfl) ?_
    refine lv_iload_n hx hb dX5_in_6 rfl (lv_at hl 2 rfl) ?_
    refine lv_icmp_gt (tgt := 14) hx hb dX5_in_7 (by decide) (fun c_7 => ?_) (fun c_7 => ?_)
    · refine lv_iconst (v := 0) hx hb dX5_in_14 (by decide) ?_
      exact ro_zret C hr hlk rfl (bI_f (by simp [inB, c_2, c_7])) dX5_in_15
    · refine lv_iconst (v := 1) hx hb dX5_in_10 (by decide) ?_
      refine lv_goto (tgt := 15) hx hb dX5_in_11 (by decide) ?_
      exact ro_zret C hr hlk rfl (bI_t (by simp [inB, c_2, c_7])) dX5_in_15

set_option maxHeartbeats 4000000 in
set_option maxRecDepth 100000 in
theorem c_X5_isLine (l : Launch) (D : va_G) (cs : Nat → ClassId) (M : wM) (X : Nat) (ad : Nat → Nat) (v : Nat → Int32) (F : Nat → Nat → Int32) (G : Nat → Nat → Int64) (hS : RS cs M X ad v F G) (p1 : Int32) : Met l yX5_isLine (mw yX5_isLine cX5_isLine 2 (some .boolean)) { frames := 1, cells := 0, slots := 0, locals := 22 } (roP D cs M [.ref X, .int p1]) (vp_Si (fun r => r = bI (inB p1 0 (v 0 - 1) = true))) 0 0 noA := by
  refine ro_met rfl (Nat.le_of_ble_eq_true rfl) ?_
  intro p e s m below meth c ls C hR hr hlk hl
  have C : kx D cs p m c cX5_isLine 2 s _ RX5 := C
  have hx := C.1.1
  have hb := C.1.2.1
  have hl : lv_has ls 2 [(0, .ref X), (1, .int p1)] := hl
  refine lv_iload_n hx hb dX5_isLine_0 rfl (lv_at hl 1 rfl) ?_
  refine lv_iconst (v := 0) hx hb dX5_isLine_1 (by decide) ?_
  refine lv_aload_n hx hb dX5_isLine_2 rfl (lv_at hl 0 rfl) ?_
  refine gf_X5_105 C hR hS.1 rfl dX5_isLine_3 ?_
  refine lv_iconst (v := 1) hx hb dX5_isLine_6 (by decide) ?_
  refine lv_isub hx hb dX5_isLine_7 ?_
  refine ro_goI (ro_S (As := [.int p1, .int 0, .int ((v 0) - 1)]) (rest := []) C hR st_X5_109 (c_X5_in l D cs _ p1 0 ((v 0) - 1)) ⟨rfl, rfl, Nat.le_of_ble_eq_true rfl, Nat.le_of_ble_eq_true rfl⟩ rfl hl.1 rfl (Nat.le_of_ble_eq_true rfl) dX5_isLine_8 ⟨Nat.le_of_ble_eq_true rfl, Nat.le_of_ble_eq_true rfl⟩) (fun r_8 h_8 => ?_)
  exact ro_zret C hr hlk (z_nar (bI_01 h_8)) h_8 dX5_isLine_11

set_option maxHeartbeats 4000000 in
set_option maxRecDepth 100000 in
theorem c_X5_isNote (l : Launch) (D : va_G) (cs : Nat → ClassId) (M : wM) (X : Nat) (ad : Nat → Nat) (v : Nat → Int32) (F : Nat → Nat → Int32) (G : Nat → Nat → Int64) (hS : RS cs M X ad v F G) (p1 : Int32) : Met l yX5_isNote (mw yX5_isNote cX5_isNote 2 (some .boolean)) { frames := 1, cells := 0, slots := 0, locals := 22 } (roP D cs M [.ref X, .int p1]) (vp_Si (fun r => r = bI (inB p1 0 (v 2 - 1) = true))) 0 0 noA := by
  refine ro_met rfl (Nat.le_of_ble_eq_true rfl) ?_
  intro p e s m below meth c ls C hR hr hlk hl
  have C : kx D cs p m c cX5_isNote 2 s _ RX5 := C
  have hx := C.1.1
  have hb := C.1.2.1
  have hl : lv_has ls 2 [(0, .ref X), (1, .int p1)] := hl
  refine lv_iload_n hx hb dX5_isNote_0 rfl (lv_at hl 1 rfl) ?_
  refine lv_iconst (v := 0) hx hb dX5_isNote_1 (by decide) ?_
  refine lv_aload_n hx hb dX5_isNote_2 rfl (lv_at hl 0 rfl) ?_
  refine gf_X5_113 C hR hS.1 rfl dX5_isNote_3 ?_
  refine lv_iconst (v := 1) hx hb dX5_isNote_6 (by decide) ?_
  refine lv_isub hx hb dX5_isNote_7 ?_
  refine ro_goI (ro_S (As := [.int p1, .int 0, .int ((v 2) - 1)]) (rest := []) C hR st_X5_109 (c_X5_in l D cs _ p1 0 ((v 2) - 1)) ⟨rfl, rfl, Nat.le_of_ble_eq_true rfl, Nat.le_of_ble_eq_true rfl⟩ rfl hl.1 rfl (Nat.le_of_ble_eq_true rfl) dX5_isNote_8 ⟨Nat.le_of_ble_eq_true rfl, Nat.le_of_ble_eq_true rfl⟩) (fun r_8 h_8 => ?_)
  exact ro_zret C hr hlk (z_nar (bI_01 h_8)) h_8 dX5_isNote_11

set_option maxHeartbeats 4000000 in
set_option maxRecDepth 100000 in
theorem c_X5_isCurve (l : Launch) (D : va_G) (cs : Nat → ClassId) (M : wM) (X : Nat) (ad : Nat → Nat) (v : Nat → Int32) (F : Nat → Nat → Int32) (G : Nat → Nat → Int64) (hS : RS cs M X ad v F G) (p1 : Int32) : Met l yX5_isCurve (mw yX5_isCurve cX5_isCurve 2 (some .boolean)) { frames := 1, cells := 0, slots := 0, locals := 22 } (roP D cs M [.ref X, .int p1]) (vp_Si (fun r => r = bI (inB p1 0 (v 19 - 1) = true))) 0 0 noA := by
  refine ro_met rfl (Nat.le_of_ble_eq_true rfl) ?_
  intro p e s m below meth c ls C hR hr hlk hl
  have C : kx D cs p m c cX5_isCurve 2 s _ RX5 := C
  have hx := C.1.1
  have hb := C.1.2.1
  have hl : lv_has ls 2 [(0, .ref X), (1, .int p1)] := hl
  refine lv_iload_n hx hb dX5_isCurve_0 rfl (lv_at hl 1 rfl) ?_
  refine lv_iconst (v := 0) hx hb dX5_isCurve_1 (by decide) ?_
  refine lv_aload_n hx hb dX5_isCurve_2 rfl (lv_at hl 0 rfl) ?_
  refine gf_X5_136 C hR hS.1 rfl dX5_isCurve_3 ?_
  refine lv_iconst (v := 1) hx hb dX5_isCurve_6 (by decide) ?_
  refine lv_isub hx hb dX5_isCurve_7 ?_
  refine ro_goI (ro_S (As := [.int p1, .int 0, .int ((v 19) - 1)]) (rest := []) C hR st_X5_109 (c_X5_in l D cs _ p1 0 ((v 19) - 1)) ⟨rfl, rfl, Nat.le_of_ble_eq_true rfl, Nat.le_of_ble_eq_true rfl⟩ rfl hl.1 rfl (Nat.le_of_ble_eq_true rfl) dX5_isCurve_8 ⟨Nat.le_of_ble_eq_true rfl, Nat.le_of_ble_eq_true rfl⟩) (fun r_8 h_8 => ?_)
  exact ro_zret C hr hlk (z_nar (bI_01 h_8)) h_8 dX5_isCurve_11

set_option maxHeartbeats 4000000 in
set_option maxRecDepth 100000 in
theorem c_X5_arch (l : Launch) (D : va_G) (cs : Nat → ClassId) (M : wM) (X : Nat) (ad : Nat → Nat) (v : Nat → Int32) (F : Nat → Nat → Int32) (G : Nat → Nat → Int64) (hS : RS cs M X ad v F G) (k : Nat) (hk : k < 80) : Met l yX5_arch (mw yX5_arch cX5_arch 3 (some .int)) { frames := 0, cells := 0, slots := 0, locals := 0 } (roP D cs M [.ref X, .int (nI k)]) (vp_Si (fun r => r = rArch F k)) 0 0 noA := by
  refine ro_met rfl (Nat.le_of_ble_eq_true rfl) ?_
  intro p e s m below meth c ls C hR hr hlk hl
  have C : kx D cs p m c cX5_arch 3 s _ RX5 := C
  have hx := C.1.1
  have hb := C.1.2.1
  have hl : lv_has ls 3 [(0, .ref X), (1, .int (nI k))] := hl
  refine lv_iconst (v := 4) hx hb dX5_arch_0 (by decide) ?_
  refine lv_aload_n hx hb dX5_arch_1 rfl (lv_at hl 0 rfl) ?_
  refine gf_X5_80 C hR hS.1 rfl dX5_arch_2 ?_
  refine lv_iload_n hx hb dX5_arch_5 rfl (lv_at hl 1 rfl) ?_
  refine r_ialdN (k := k) C hR (RS.i hS 28 80 rfl rfl) (by omega) (by decide) rfl dX5_arch_6 ?_
  refine lv_aload_n hx hb dX5_arch_7 rfl (lv_at hl 0 rfl) ?_
  refine gf_X5_74 C hR hS.1 rfl dX5_arch_8 ?_
  refine lv_iload_n hx hb dX5_arch_11 rfl (lv_at hl 1 rfl) ?_
  refine r_ialdN (k := k) C hR (RS.i hS 26 80 rfl rfl) (by omega) (by decide) rfl dX5_arch_12 ?_
  refine lv_isub hx hb dX5_arch_13 ?_
  refine lv_bipush (v := 8) hx hb dX5_arch_14 (by decide) ?_
  refine lv_idiv hx hb dX5_arch_16 (by decide) ?_
  refine lv_iadd hx hb dX5_arch_17 ?_
  refine lv_topi (fun x_18 ex_18 => ?_)
  refine lv_istore_n (lv' := [(2, .int x_18), (0, .ref X), (1, .int (nI k))]) hx hb dX5_arch_18 rfl hl (by decide) rfl (fun ls hl => ?_)
  refine lv_iload_n hx hb dX5_arch_19 rfl (lv_at hl 0 rfl) ?_
  refine lv_bipush (v := 20) hx hb dX5_arch_20 (by decide) ?_
  refine lv_icmp_ge (tgt := 29) hx hb dX5_arch_22 (by decide) (fun c_22 => ?_) (fun c_22 => ?_)
  · refine lv_bipush (v := 20) hx hb dX5_arch_29 (by decide) ?_
    exact ro_iret C hr hlk (by subst ex_18; simp [rArch, c_22]) dX5_arch_31
  · refine lv_iload_n hx hb dX5_arch_25 rfl (lv_at hl 0 rfl) ?_
    refine lv_goto (tgt := 31) hx hb dX5_arch_26 (by decide) ?_
    exact ro_iret C hr hlk (by subst ex_18; simp [rArch, c_22]) dX5_arch_31

set_option maxHeartbeats 4000000 in
set_option maxRecDepth 100000 in
theorem c_X5_candidates (l : Launch) (D : va_G) (cs : Nat → ClassId) (M : wM) (X : Nat) (ad : Nat → Nat) (v : Nat → Int32) (F : Nat → Nat → Int32) (G : Nat → Nat → Int64) (hS : RS cs M X ad v F G) (k : Nat) (hk : k < 80) : Met l yX5_candidates (mw yX5_candidates cX5_candidates 2 (some .int)) { frames := 0, cells := 0, slots := 0, locals := 0 } (roP D cs M [.ref X, .int (nI k)]) (vp_Si (fun r => r = if F 22 (k / 2) = 0 then 24 else 8)) 0 0 noA := by
  refine ro_met rfl (Nat.le_of_ble_eq_true rfl) ?_
  intro p e s m below meth c ls C hR hr hlk hl
  have C : kx D cs p m c cX5_candidates 2 s _ RX5 := C
  have hx := C.1.1
  have hb := C.1.2.1
  have hl : lv_has ls 2 [(0, .ref X), (1, .int (nI k))] := hl
  refine lv_aload_n hx hb dX5_candidates_0 rfl (lv_at hl 0 rfl) ?_
  refine gf_X5_62 C hR hS.1 rfl dX5_candidates_1 ?_
  refine lv_iload_n hx hb dX5_candidates_4 rfl (lv_at hl 1 rfl) ?_
  refine lv_iconst (v := 2) hx hb dX5_candidates_5 (by decide) ?_
  refine lv_idiv hx hb dX5_candidates_6 (by decide) ?_
  refine top_eq (y := nI (k / 2)) (tn_div rfl rfl (by omega) (by decide) (by decide)) ?_
  refine r_zaldN (k := (k / 2)) C hR (RS.z hS 22 40 rfl rfl) (by omega) (by decide) rfl dX5_candidates_7 ?_
  refine lv_if_eq (tgt := 16) hx hb dX5_candidates_8 (by decide) (fun c_8 => ?_) (fun c_8 => ?_)
  · refine lv_bipush (v := 24) hx hb dX5_candidates_16 (by decide) ?_
    exact ro_iret C hr hlk (by simp [c_8]) dX5_candidates_18
  · refine lv_bipush (v := 8) hx hb dX5_candidates_11 (by decide) ?_
    refine lv_goto (tgt := 18) hx hb dX5_candidates_13 (by decide) ?_
    exact ro_iret C hr hlk (by simp [c_8]) dX5_candidates_18

set_option maxHeartbeats 4000000 in
set_option maxRecDepth 100000 in
theorem c_X5_badnessOf (l : Launch) (D : va_G) (cs : Nat → ClassId) (M : wM) (q : Int32) : Met l yX5_badnessOf (mw yX5_badnessOf cX5_badnessOf 3 (some .int)) { frames := 0, cells := 0, slots := 0, locals := 0 } (roP D cs M [.int q]) (vp_Si (fun r => r = rBad q)) 0 0 noA := by
  refine ro_met rfl (Nat.le_of_ble_eq_true rfl) ?_
  intro p e s m below meth c ls C hR hr hlk hl
  have C : kx D cs p m c cX5_badnessOf 3 s _ RX5 := C
  have hx := C.1.1
  have hb := C.1.2.1
  have hl : lv_has ls 3 [(0, .int q)] := hl
  refine lv_iload_n hx hb dX5_badnessOf_0 rfl (lv_at hl 0 rfl) ?_
  refine lv_bipush (v := 8) hx hb dX5_badnessOf_1 (by decide) ?_
  refine lv_irem hx hb dX5_badnessOf_3 (by decide) ?_
  refine lv_istore_n (lv' := [(1, .int (q - q / 8 * 8)), (0, .int q)]) hx hb dX5_badnessOf_4 rfl hl (by decide) rfl (fun ls hl => ?_)
  refine lv_iload_n hx hb dX5_badnessOf_5 rfl (lv_at hl 1 rfl) ?_
  refine lv_bipush (v := 8) hx hb dX5_badnessOf_6 (by decide) ?_
  refine lv_idiv hx hb dX5_badnessOf_8 (by decide) ?_
  refine lv_istore_n (lv' := [(2, .int (q / 8)), (1, .int (q - q / 8 * 8)), (0, .int q)]) hx hb dX5_badnessOf_9 rfl hl (by decide) rfl (fun ls hl => ?_)
  refine lv_bipush (v := 16) hx hb dX5_badnessOf_10 (by decide) ?_
  refine lv_iload_n hx hb dX5_badnessOf_12 rfl (lv_at hl 1 rfl) ?_
  refine lv_imul hx hb dX5_badnessOf_13 ?_
  refine lv_iload_n hx hb dX5_badnessOf_14 rfl (lv_at hl 1 rfl) ?_
  refine lv_imul hx hb dX5_badnessOf_15 ?_
  refine lv_bipush (v := 48) hx hb dX5_badnessOf_16 (by decide) ?_
  refine lv_iload_n hx hb dX5_badnessOf_18 rfl (lv_at hl 0 rfl) ?_
  refine lv_imul hx hb dX5_badnessOf_19 ?_
  refine lv_iload_n hx hb dX5_badnessOf_20 rfl (lv_at hl 0 rfl) ?_
  refine lv_imul hx hb dX5_badnessOf_21 ?_
  refine lv_iadd hx hb dX5_badnessOf_22 ?_
  exact ro_iret C hr hlk (by simp [rBad]) dX5_badnessOf_23

set_option maxHeartbeats 4000000 in
set_option maxRecDepth 100000 in
theorem c_X5_px (l : Launch) (D : va_G) (cs : Nat → ClassId) (M : wM) (X : Nat) (ad : Nat → Nat) (v : Nat → Int32) (F : Nat → Nat → Int32) (G : Nat → Nat → Int64) (hS : RS cs M X ad v F G) (k : Nat) (hk : k < 80) (i : Int32) : Met l yX5_px (mw yX5_px cX5_px 4 (some .int)) { frames := 0, cells := 0, slots := 0, locals := 0 } (roP D cs M [.ref X, .int (nI k), .int i]) (vp_Si (fun r => r = rPx F k i)) 0 0 noA := by
  refine ro_met rfl (Nat.le_of_ble_eq_true rfl) ?_
  intro p e s m below meth c ls C hR hr hlk hl
  have C : kx D cs p m c cX5_px 4 s _ RX5 := C
  have hx := C.1.1
  have hb := C.1.2.1
  have hl : lv_has ls 4 [(0, .ref X), (1, .int (nI k)), (2, .int i)] := hl
  refine lv_aload_n hx hb dX5_px_0 rfl (lv_at hl 0 rfl) ?_
  refine gf_X5_80 C hR hS.1 rfl dX5_px_1 ?_
  refine lv_iload_n hx hb dX5_px_4 rfl (lv_at hl 1 rfl) ?_
  refine r_ialdN (k := k) C hR (RS.i hS 28 80 rfl rfl) (by omega) (by decide) rfl dX5_px_5 ?_
  refine lv_aload_n hx hb dX5_px_6 rfl (lv_at hl 0 rfl) ?_
  refine gf_X5_74 C hR hS.1 rfl dX5_px_7 ?_
  refine lv_iload_n hx hb dX5_px_10 rfl (lv_at hl 1 rfl) ?_
  refine r_ialdN (k := k) C hR (RS.i hS 26 80 rfl rfl) (by omega) (by decide) rfl dX5_px_11 ?_
  refine lv_isub hx hb dX5_px_12 ?_
  refine lv_iconst (v := 4) hx hb dX5_px_13 (by decide) ?_
  refine lv_idiv hx hb dX5_px_14 (by decide) ?_
  refine lv_topi (fun x_15 ex_15 => ?_)
  refine lv_istore_n (lv' := [(3, .int x_15), (0, .ref X), (1, .int (nI k)), (2, .int i)]) hx hb dX5_px_15 rfl hl (by decide) rfl (fun ls hl => ?_)
  refine lv_iload_n hx hb dX5_px_16 rfl (lv_at hl 3 rfl) ?_
  refine lv_if_ne (tgt := 29) hx hb dX5_px_17 (by decide) (fun c_17 => ?_) (fun c_17 => ?_)
  · refine lv_iload_n hx hb dX5_px_29 rfl (lv_at hl 3 rfl) ?_
    refine lv_iconst (v := 1) hx hb dX5_px_30 (by decide) ?_
    refine lv_icmp_ne (tgt := 45) hx hb dX5_px_31 (by decide) (fun c_31 => ?_) (fun c_31 => ?_)
    · refine lv_iload_n hx hb dX5_px_45 rfl (lv_at hl 3 rfl) ?_
      refine lv_iconst (v := 2) hx hb dX5_px_46 (by decide) ?_
      refine lv_icmp_ne (tgt := 61) hx hb dX5_px_47 (by decide) (fun c_47 => ?_) (fun c_47 => ?_)
      · refine lv_aload_n hx hb dX5_px_61 rfl (lv_at hl 1 rfl) ?_
        refine gf_X5_80 C hR hS.1 rfl dX5_px_62 ?_
        refine lv_iload_n hx hb dX5_px_65 rfl (lv_at hl 2 rfl) ?_
        refine r_ialdN (k := k) C hR (RS.i hS 28 80 rfl rfl) (by omega) (by decide) rfl dX5_px_66 ?_
        exact ro_iret C hr hlk (by subst ex_15; simp [rPx, c_17, c_31, c_47]) dX5_px_67
      · refine lv_aload_n hx hb dX5_px_50 rfl (lv_at hl 1 rfl) ?_
        refine gf_X5_80 C hR hS.1 rfl dX5_px_51 ?_
        refine lv_iload_n hx hb dX5_px_54 rfl (lv_at hl 2 rfl) ?_
        refine r_ialdN (k := k) C hR (RS.i hS 28 80 rfl rfl) (by omega) (by decide) rfl dX5_px_55 ?_
        refine lv_iload_n hx hb dX5_px_56 rfl (lv_at hl 0 rfl) ?_
        refine lv_isub hx hb dX5_px_57 ?_
        refine lv_goto (tgt := 67) hx hb dX5_px_58 (by decide) ?_
        exact ro_iret C hr hlk (by subst ex_15; simp [rPx, c_17, c_31, c_47]) dX5_px_67
    · refine lv_aload_n hx hb dX5_px_34 rfl (lv_at hl 1 rfl) ?_
      refine gf_X5_74 C hR hS.1 rfl dX5_px_35 ?_
      refine lv_iload_n hx hb dX5_px_38 rfl (lv_at hl 2 rfl) ?_
      refine r_ialdN (k := k) C hR (RS.i hS 26 80 rfl rfl) (by omega) (by decide) rfl dX5_px_39 ?_
      refine lv_iload_n hx hb dX5_px_40 rfl (lv_at hl 0 rfl) ?_
      refine lv_iadd hx hb dX5_px_41 ?_
      refine lv_goto (tgt := 67) hx hb dX5_px_42 (by decide) ?_
      exact ro_iret C hr hlk (by subst ex_15; simp [rPx, c_17, c_31]) dX5_px_67
  · refine lv_aload_n hx hb dX5_px_20 rfl (lv_at hl 1 rfl) ?_
    refine gf_X5_74 C hR hS.1 rfl dX5_px_21 ?_
    refine lv_iload_n hx hb dX5_px_24 rfl (lv_at hl 2 rfl) ?_
    refine r_ialdN (k := k) C hR (RS.i hS 26 80 rfl rfl) (by omega) (by decide) rfl dX5_px_25 ?_
    refine lv_goto (tgt := 67) hx hb dX5_px_26 (by decide) ?_
    exact ro_iret C hr hlk (by subst ex_15; simp [rPx, c_17]) dX5_px_67

set_option maxHeartbeats 4000000 in
set_option maxRecDepth 100000 in
theorem c_X5_py (l : Launch) (D : va_G) (cs : Nat → ClassId) (M : wM) (X : Nat) (ad : Nat → Nat) (v : Nat → Int32) (F : Nat → Nat → Int32) (G : Nat → Nat → Int64) (hS : RS cs M X ad v F G) (k : Nat) (hk : k < 80) (q i : Int32) : Met l yX5_py (mw yX5_py cX5_py 9 (some .int)) { frames := 1, cells := 0, slots := 0, locals := 22 } (roP D cs M [.ref X, .int (nI k), .int q, .int i]) (vp_Si (fun r => r = rPy F k q i)) 0 0 noA := by
  refine ro_met rfl (Nat.le_of_ble_eq_true rfl) ?_
  intro p e s m below meth c ls C hR hr hlk hl
  have C : kx D cs p m c cX5_py 9 s _ RX5 := C
  have hx := C.1.1
  have hb := C.1.2.1
  have hl : lv_has ls 9 [(0, .ref X), (1, .int (nI k)), (2, .int q), (3, .int i)] := hl
  refine lv_aload_n hx hb dX5_py_0 rfl (lv_at hl 0 rfl) ?_
  refine gf_X5_65 C hR hS.1 rfl dX5_py_1 ?_
  refine lv_iload_n hx hb dX5_py_4 rfl (lv_at hl 1 rfl) ?_
  refine lv_iconst (v := 2) hx hb dX5_py_5 (by decide) ?_
  refine lv_idiv hx hb dX5_py_6 (by decide) ?_
  refine top_eq (y := nI (k / 2)) (tn_div rfl rfl (by omega) (by decide) (by decide)) ?_
  refine r_ialdN (k := (k / 2)) C hR (RS.i hS 23 40 rfl rfl) (by omega) (by decide) rfl dX5_py_7 ?_
  refine lv_istore (lv' := [(4, .int (F 23 (k / 2))), (0, .ref X), (1, .int (nI k)), (2, .int q), (3, .int i)]) hx hb dX5_py_8 hl (by decide) rfl (fun ls hl => ?_)
  refine lv_iconst (v := 4) hx hb dX5_py_10 (by decide) ?_
  refine lv_iload_n hx hb dX5_py_11 rfl (lv_at hl 3 rfl) ?_
  refine lv_bipush (v := 8) hx hb dX5_py_12 (by decide) ?_
  refine lv_idiv hx hb dX5_py_14 (by decide) ?_
  refine lv_imul hx hb dX5_py_15 ?_
  refine lv_iload hx hb dX5_py_16 (lv_at hl 0 rfl) ?_
  refine lv_imul hx hb dX5_py_18 ?_
  refine lv_topi (fun x_19 ex_19 => ?_)
  refine lv_istore (lv' := [(5, .int x_19), (4, .int (F 23 (k / 2))), (0, .ref X), (1, .int (nI k)), (2, .int q), (3, .int i)]) hx hb dX5_py_19 hl (by decide) rfl (fun ls hl => ?_)
  refine lv_aload_n hx hb dX5_py_21 rfl (lv_at hl 2 rfl) ?_
  refine lv_iload_n hx hb dX5_py_22 rfl (lv_at hl 3 rfl) ?_
  refine ro_goI (ro_V (As := [.int (nI k)]) (rest := []) C hR st_X5_166 (c_X5_arch l D cs _ X ad v F G hS k (by omega)) hS.1 rfl rfl ⟨rfl, rfl, Nat.le_of_ble_eq_true rfl, Nat.le_of_ble_eq_true rfl⟩ rfl hl.1 rfl (Nat.le_of_ble_eq_true rfl) dX5_py_23 ⟨Nat.le_of_ble_eq_true rfl, Nat.le_of_ble_eq_true rfl⟩) (fun r_23 h_23 => ?_)
  refine lv_iconst (v := 4) hx hb dX5_py_26 (by decide) ?_
  refine lv_iload_n hx hb dX5_py_27 rfl (lv_at hl 4 rfl) ?_
  refine lv_bipush (v := 8) hx hb dX5_py_28 (by decide) ?_
  refine lv_irem hx hb dX5_py_30 (by decide) ?_
  refine lv_imul hx hb dX5_py_31 ?_
  refine lv_iadd hx hb dX5_py_32 ?_
  refine lv_iload hx hb dX5_py_33 (lv_at hl 1 rfl) ?_
  refine lv_imul hx hb dX5_py_35 ?_
  refine lv_topi (fun x_36 ex_36 => ?_)
  refine lv_istore (lv' := [(6, .int x_36), (5, .int x_19), (4, .int (F 23 (k / 2))), (0, .ref X), (1, .int (nI k)), (2, .int q), (3, .int i)]) hx hb dX5_py_36 hl (by decide) rfl (fun ls hl => ?_)
  refine lv_aload_n hx hb dX5_py_38 rfl (lv_at hl 3 rfl) ?_
  refine gf_X5_77 C hR hS.1 rfl dX5_py_39 ?_
  refine lv_iload_n hx hb dX5_py_42 rfl (lv_at hl 4 rfl) ?_
  refine r_ialdN (k := k) C hR (RS.i hS 27 80 rfl rfl) (by omega) (by decide) rfl dX5_py_43 ?_
  refine lv_iload hx hb dX5_py_44 (lv_at hl 1 rfl) ?_
  refine lv_iadd hx hb dX5_py_46 ?_
  refine lv_istore (lv' := [(7, .int ((F 27 k) + x_19)), (6, .int x_36), (5, .int x_19), (4, .int (F 23 (k / 2))), (0, .ref X), (1, .int (nI k)), (2, .int q), (3, .int i)]) hx hb dX5_py_47 hl (by decide) rfl (fun ls hl => ?_)
  refine lv_aload_n hx hb dX5_py_49 rfl (lv_at hl 4 rfl) ?_
  refine gf_X5_83 C hR hS.1 rfl dX5_py_50 ?_
  refine lv_iload_n hx hb dX5_py_53 rfl (lv_at hl 5 rfl) ?_
  refine r_ialdN (k := k) C hR (RS.i hS 29 80 rfl rfl) (by omega) (by decide) rfl dX5_py_54 ?_
  refine lv_iload hx hb dX5_py_55 (lv_at hl 2 rfl) ?_
  refine lv_iadd hx hb dX5_py_57 ?_
  refine lv_istore (lv' := [(8, .int ((F 29 k) + x_19)), (7, .int ((F 27 k) + x_19)), (6, .int x_36), (5, .int x_19), (4, .int (F 23 (k / 2))), (0, .ref X), (1, .int (nI k)), (2, .int q), (3, .int i)]) hx hb dX5_py_58 hl (by decide) rfl (fun ls hl => ?_)
  refine lv_iload_n hx hb dX5_py_60 rfl (lv_at hl 8 rfl) ?_
  refine lv_if_ne (tgt := 69) hx hb dX5_py_61 (by decide) (fun c_61 => ?_) (fun c_61 => ?_)
  · refine lv_iload_n hx hb dX5_py_69 rfl (lv_at hl 8 rfl) ?_
    refine lv_iconst (v := 1) hx hb dX5_py_70 (by decide) ?_
    refine lv_icmp_ne (tgt := 90) hx hb dX5_py_71 (by decide) (fun c_71 => ?_) (fun c_71 => ?_)
    · refine lv_iload_n hx hb dX5_py_90 rfl (lv_at hl 8 rfl) ?_
      refine lv_iconst (v := 2) hx hb dX5_py_91 (by decide) ?_
      refine lv_icmp_ne (tgt := 111) hx hb dX5_py_92 (by decide) (fun c_92 => ?_) (fun c_92 => ?_)
      · refine lv_iload hx hb dX5_py_111 (lv_at hl 0 rfl) ?_
        exact ro_iret C hr hlk (by simp [rPy, c_61, c_71, c_92, ex_19, ex_36, h_23]) dX5_py_113
      · refine lv_iload hx hb dX5_py_95 (lv_at hl 0 rfl) ?_
        refine lv_iload hx hb dX5_py_97 (lv_at hl 1 rfl) ?_
        refine lv_iload hx hb dX5_py_99 (lv_at hl 0 rfl) ?_
        refine lv_isub hx hb dX5_py_101 ?_
        refine lv_iconst (v := 4) hx hb dX5_py_102 (by decide) ?_
        refine lv_idiv hx hb dX5_py_103 (by decide) ?_
        refine lv_iadd hx hb dX5_py_104 ?_
        refine lv_iload hx hb dX5_py_105 (lv_at hl 2 rfl) ?_
        refine lv_iadd hx hb dX5_py_107 ?_
        refine lv_goto (tgt := 113) hx hb dX5_py_108 (by decide) ?_
        exact ro_iret C hr hlk (by simp [rPy, c_61, c_71, c_92, ex_19, ex_36, h_23]) dX5_py_113
    · refine lv_iload hx hb dX5_py_74 (lv_at hl 1 rfl) ?_
      refine lv_iload hx hb dX5_py_76 (lv_at hl 0 rfl) ?_
      refine lv_iload hx hb dX5_py_78 (lv_at hl 1 rfl) ?_
      refine lv_isub hx hb dX5_py_80 ?_
      refine lv_iconst (v := 4) hx hb dX5_py_81 (by decide) ?_
      refine lv_idiv hx hb dX5_py_82 (by decide) ?_
      refine lv_iadd hx hb dX5_py_83 ?_
      refine lv_iload hx hb dX5_py_84 (lv_at hl 2 rfl) ?_
      refine lv_iadd hx hb dX5_py_86 ?_
      refine lv_goto (tgt := 113) hx hb dX5_py_87 (by decide) ?_
      exact ro_iret C hr hlk (by simp [rPy, c_61, c_71, ex_19, ex_36, h_23]) dX5_py_113
  · refine lv_iload hx hb dX5_py_64 (lv_at hl 1 rfl) ?_
    refine lv_goto (tgt := 113) hx hb dX5_py_66 (by decide) ?_
    exact ro_iret C hr hlk (by simp [rPy, c_61, ex_19, ex_36, h_23]) dX5_py_113

set_option maxHeartbeats 4000000 in
set_option maxRecDepth 100000 in
theorem c_X5_isIn (l : Launch) (D : va_G) (cs : Nat → ClassId) (M : wM) (X : Nat) (ad : Nat → Nat) (v : Nat → Int32) (F : Nat → Nat → Int32) (G : Nat → Nat → Int64) (hS : RS cs M X ad v F G) (j k : Nat) (hj : j < 80) (hk : k < 80) : Met l yX5_isIn (mw yX5_isIn cX5_isIn 3 (some .boolean)) { frames := 0, cells := 0, slots := 0, locals := 0 } (roP D cs M [.ref X, .int (nI j), .int (nI k)]) (vp_Si (fun r => r = bI (rIn F j k = true))) 0 0 noA := by
  refine ro_met rfl (Nat.le_of_ble_eq_true rfl) ?_
  intro p e s m below meth c ls C hR hr hlk hl
  have C : kx D cs p m c cX5_isIn 3 s _ RX5 := C
  have hx := C.1.1
  have hb := C.1.2.1
  have hl : lv_has ls 3 [(0, .ref X), (1, .int (nI j)), (2, .int (nI k))] := hl
  refine lv_iload_n hx hb dX5_isIn_0 rfl (lv_at hl 1 rfl) ?_
  refine lv_iconst (v := 2) hx hb dX5_isIn_1 (by decide) ?_
  refine lv_idiv hx hb dX5_isIn_2 (by decide) ?_
  refine top_eq (y := nI (j / 2)) (tn_div rfl rfl (by omega) (by decide) (by decide)) ?_
  refine lv_iload_n hx hb dX5_isIn_3 rfl (lv_at hl 2 rfl) ?_
  refine lv_iconst (v := 2) hx hb dX5_isIn_4 (by decide) ?_
  refine lv_idiv hx hb dX5_isIn_5 (by decide) ?_
  refine top_eq (y := nI (k / 2)) (tn_div rfl rfl (by omega) (by decide) (by decide)) ?_
  refine lv_icmp_ge (tgt := 77) hx hb dX5_isIn_6 (by decide) (fun c_6 => ?_) (fun c_6 => ?_)
  · have c_6 := cle_t (a := (k / 2)) (b := (j / 2)) c_6 (by omega) (by omega)
    refine lv_iconst (v := 0) hx hb dX5_isIn_77 (by decide) ?_
    exact ro_zret C hr hlk rfl (bI_f (fun h => absurd (of_decide_eq_true h).1 (by omega))) dX5_isIn_78
  · have c_6 := cle_f (a := (k / 2)) (b := (j / 2)) c_6 (by omega) (by omega)
    refine lv_aload_n hx hb dX5_isIn_9 rfl (lv_at hl 0 rfl) ?_
    refine gf_X5_71 C hR hS.1 rfl dX5_isIn_10 ?_
    refine lv_iload_n hx hb dX5_isIn_13 rfl (lv_at hl 1 rfl) ?_
    refine r_ialdN (k := j) C hR (RS.i hS 25 80 rfl rfl) (by omega) (by decide) rfl dX5_isIn_14 ?_
    refine lv_aload_n hx hb dX5_isIn_15 rfl (lv_at hl 0 rfl) ?_
    refine gf_X5_71 C hR hS.1 rfl dX5_isIn_16 ?_
    refine lv_iload_n hx hb dX5_isIn_19 rfl (lv_at hl 2 rfl) ?_
    refine r_ialdN (k := k) C hR (RS.i hS 25 80 rfl rfl) (by omega) (by decide) rfl dX5_isIn_20 ?_
    refine lv_icmp_ne (tgt := 77) hx hb dX5_isIn_21 (by decide) (fun c_21 => ?_) (fun c_21 => ?_)
    · refine lv_iconst (v := 0) hx hb dX5_isIn_77 (by decide) ?_
      exact ro_zret C hr hlk rfl (bI_f (fun h => by simp [rIn, c_6, c_21] at h)) dX5_isIn_78
    · refine lv_aload_n hx hb dX5_isIn_24 rfl (lv_at hl 0 rfl) ?_
      refine gf_X5_65 C hR hS.1 rfl dX5_isIn_25 ?_
      refine lv_iload_n hx hb dX5_isIn_28 rfl (lv_at hl 1 rfl) ?_
      refine lv_iconst (v := 2) hx hb dX5_isIn_29 (by decide) ?_
      refine lv_idiv hx hb dX5_isIn_30 (by decide) ?_
      refine top_eq (y := nI (j / 2)) (tn_div rfl rfl (by omega) (by decide) (by decide)) ?_
      refine r_ialdN (k := (j / 2)) C hR (RS.i hS 23 40 rfl rfl) (by omega) (by decide) rfl dX5_isIn_31 ?_
      refine lv_aload_n hx hb dX5_isIn_32 rfl (lv_at hl 0 rfl) ?_
      refine gf_X5_65 C hR hS.1 rfl dX5_isIn_33 ?_
      refine lv_iload_n hx hb dX5_isIn_36 rfl (lv_at hl 2 rfl) ?_
      refine lv_iconst (v := 2) hx hb dX5_isIn_37 (by decide) ?_
      refine lv_idiv hx hb dX5_isIn_38 (by decide) ?_
      refine top_eq (y := nI (k / 2)) (tn_div rfl rfl (by omega) (by decide) (by decide)) ?_
      refine r_ialdN (k := (k / 2)) C hR (RS.i hS 23 40 rfl rfl) (by omega) (by decide) rfl dX5_isIn_39 ?_
      refine lv_icmp_ne (tgt := 77) hx hb dX5_isIn_40 (by decide) (fun c_40 => ?_) (fun c_40 => ?_)
      · refine lv_iconst (v := 0) hx hb dX5_isIn_77 (by decide) ?_
        exact ro_zret C hr hlk rfl (bI_f (fun h => by simp [rIn, c_6, c_21, c_40] at h)) dX5_isIn_78
      · refine lv_aload_n hx hb dX5_isIn_43 rfl (lv_at hl 0 rfl) ?_
        refine gf_X5_74 C hR hS.1 rfl dX5_isIn_44 ?_
        refine lv_iload_n hx hb dX5_isIn_47 rfl (lv_at hl 1 rfl) ?_
        refine r_ialdN (k := j) C hR (RS.i hS 26 80 rfl rfl) (by omega) (by decide) rfl dX5_isIn_48 ?_
        refine lv_aload_n hx hb dX5_isIn_49 rfl (lv_at hl 0 rfl) ?_
        refine gf_X5_74 C hR hS.1 rfl dX5_isIn_50 ?_
        refine lv_iload_n hx hb dX5_isIn_53 rfl (lv_at hl 2 rfl) ?_
        refine r_ialdN (k := k) C hR (RS.i hS 26 80 rfl rfl) (by omega) (by decide) rfl dX5_isIn_54 ?_
        refine lv_icmp_lt (tgt := 77) hx hb dX5_isIn_55 (by decide) (fun c_55 => ?_) (fun c_55 => ?_)
        · refine lv_iconst (v := 0) hx hb dX5_isIn_77 (by decide) ?_
          exact ro_zret C hr hlk rfl (bI_f (fun h => by simp [rIn, c_6, c_21, c_40, c_55] at h)) dX5_isIn_78
        · refine lv_aload_n hx hb dX5_isIn_58 rfl (lv_at hl 0 rfl) ?_
          refine gf_X5_80 C hR hS.1 rfl dX5_isIn_59 ?_
          refine lv_iload_n hx hb dX5_isIn_62 rfl (lv_at hl 1 rfl) ?_
          refine r_ialdN (k := j) C hR (RS.i hS 28 80 rfl rfl) (by omega) (by decide) rfl dX5_isIn_63 ?_
          refine lv_aload_n hx hb dX5_isIn_64 rfl (lv_at hl 0 rfl) ?_
          refine gf_X5_80 C hR hS.1 rfl dX5_isIn_65 ?_
          refine lv_iload_n hx hb dX5_isIn_68 rfl (lv_at hl 2 rfl) ?_
          refine r_ialdN (k := k) C hR (RS.i hS 28 80 rfl rfl) (by omega) (by decide) rfl dX5_isIn_69 ?_
          refine lv_icmp_gt (tgt := 77) hx hb dX5_isIn_70 (by decide) (fun c_70 => ?_) (fun c_70 => ?_)
          · refine lv_iconst (v := 0) hx hb dX5_isIn_77 (by decide) ?_
            exact ro_zret C hr hlk rfl (bI_f (fun h => by simp [rIn, c_6, c_21, c_40, c_55, c_70] at h)) dX5_isIn_78
          · refine lv_iconst (v := 1) hx hb dX5_isIn_73 (by decide) ?_
            refine lv_goto (tgt := 78) hx hb dX5_isIn_74 (by decide) ?_
            exact ro_zret C hr hlk rfl (bI_t (by simp [rIn, c_6, c_21, c_40, c_55, c_70])) dX5_isIn_78

set_option maxHeartbeats 4000000 in
set_option maxRecDepth 100000 in
theorem c_X5_isBefore (l : Launch) (D : va_G) (cs : Nat → ClassId) (M : wM) (X : Nat) (ad : Nat → Nat) (v : Nat → Int32) (F : Nat → Nat → Int32) (G : Nat → Nat → Int64) (hS : RS cs M X ad v F G) (a b : Nat) (ha : a < 60) (hb0 : b < 60) : Met l yX5_isBefore (mw yX5_isBefore cX5_isBefore 3 (some .boolean)) { frames := 0, cells := 0, slots := 0, locals := 0 } (roP D cs M [.ref X, .int (nI a), .int (nI b)]) (vp_Si (fun r => r = bI (rBefore F a b = true))) 0 0 noA := by
  refine ro_met rfl (Nat.le_of_ble_eq_true rfl) ?_
  intro p e s m below meth c ls C hR hr hlk hl
  have C : kx D cs p m c cX5_isBefore 3 s _ RX5 := C
  have hx := C.1.1
  have hb := C.1.2.1
  have hl : lv_has ls 3 [(0, .ref X), (1, .int (nI a)), (2, .int (nI b))] := hl
  refine lv_aload_n hx hb dX5_isBefore_0 rfl (lv_at hl 0 rfl) ?_
  refine gf_X5_13 C hR hS.1 rfl dX5_isBefore_1 ?_
  refine lv_iload_n hx hb dX5_isBefore_4 rfl (lv_at hl 1 rfl) ?_
  refine r_ialdN (k := a) C hR (RS.i hS 3 60 rfl rfl) (by omega) (by decide) rfl dX5_isBefore_5 ?_
  refine lv_aload_n hx hb dX5_isBefore_6 rfl (lv_at hl 0 rfl) ?_
  refine gf_X5_13 C hR hS.1 rfl dX5_isBefore_7 ?_
  refine lv_iload_n hx hb dX5_isBefore_10 rfl (lv_at hl 2 rfl) ?_
  refine r_ialdN (k := b) C hR (RS.i hS 3 60 rfl rfl) (by omega) (by decide) rfl dX5_isBefore_11 ?_
  refine lv_icmp_lt (tgt := 45) hx hb dX5_isBefore_12 (by decide) (fun c_12 => ?_) (fun c_12 => ?_)
  · refine lv_iconst (v := 1) hx hb dX5_isBefore_45 (by decide) ?_
    refine lv_goto (tgt := 50) hx hb dX5_isBefore_46 (by decide) ?_
    exact ro_zret C hr hlk rfl (bI_t (by simp [rBefore, c_12])) dX5_isBefore_50
  · refine lv_aload_n hx hb dX5_isBefore_15 rfl (lv_at hl 0 rfl) ?_
    refine gf_X5_13 C hR hS.1 rfl dX5_isBefore_16 ?_
    refine lv_iload_n hx hb dX5_isBefore_19 rfl (lv_at hl 1 rfl) ?_
    refine r_ialdN (k := a) C hR (RS.i hS 3 60 rfl rfl) (by omega) (by decide) rfl dX5_isBefore_20 ?_
    refine lv_aload_n hx hb dX5_isBefore_21 rfl (lv_at hl 0 rfl) ?_
    refine gf_X5_13 C hR hS.1 rfl dX5_isBefore_22 ?_
    refine lv_iload_n hx hb dX5_isBefore_25 rfl (lv_at hl 2 rfl) ?_
    refine r_ialdN (k := b) C hR (RS.i hS 3 60 rfl rfl) (by omega) (by decide) rfl dX5_isBefore_26 ?_
    refine lv_icmp_ne (tgt := 49) hx hb dX5_isBefore_27 (by decide) (fun c_27 => ?_) (fun c_27 => ?_)
    · refine lv_iconst (v := 0) hx hb dX5_isBefore_49 (by decide) ?_
      exact ro_zret C hr hlk rfl (bI_f (by simp [rBefore, c_12, c_27])) dX5_isBefore_50
    · refine lv_aload_n hx hb dX5_isBefore_30 rfl (lv_at hl 0 rfl) ?_
      refine gf_X5_16 C hR hS.1 rfl dX5_isBefore_31 ?_
      refine lv_iload_n hx hb dX5_isBefore_34 rfl (lv_at hl 1 rfl) ?_
      refine r_ialdN (k := a) C hR (RS.i hS 4 60 rfl rfl) (by omega) (by decide) rfl dX5_isBefore_35 ?_
      refine lv_aload_n hx hb dX5_isBefore_36 rfl (lv_at hl 0 rfl) ?_
      refine gf_X5_16 C hR hS.1 rfl dX5_isBefore_37 ?_
      refine lv_iload_n hx hb dX5_isBefore_40 rfl (lv_at hl 2 rfl) ?_
      refine r_ialdN (k := b) C hR (RS.i hS 4 60 rfl rfl) (by omega) (by decide) rfl dX5_isBefore_41 ?_
      refine lv_icmp_ge (tgt := 49) hx hb dX5_isBefore_42 (by decide) (fun c_42 => ?_) (fun c_42 => ?_)
      · refine lv_iconst (v := 0) hx hb dX5_isBefore_49 (by decide) ?_
        exact ro_zret C hr hlk rfl (bI_f (by simp [rBefore, c_12, c_27, c_42])) dX5_isBefore_50
      · refine lv_iconst (v := 1) hx hb dX5_isBefore_45 (by decide) ?_
        refine lv_goto (tgt := 50) hx hb dX5_isBefore_46 (by decide) ?_
        exact ro_zret C hr hlk rfl (bI_t (by simp [rBefore, c_12, c_27, c_42])) dX5_isBefore_50

theorem inP_nat {x y : Int32} {n : Nat} (h : inB x 0 (y - 1) = true) (hy : y = nI n) (hn : n < 1073741824) : ∃ j, j < n ∧ x = nI j := by
  obtain ⟨h1, h2⟩ := of_decide_eq_true h
  obtain ⟨j, hj, e⟩ := nI_of h1
  refine ⟨j, ?_, e⟩
  subst hy
  rw [e] at h2
  cases n with
  | zero =>
    exact absurd (show nI 0 - 1 < nI j by
      rw [Int32.lt_iff_toInt_lt, nI_toInt hj]
      have : (nI 0 - 1).toInt = -1 := by decide
      omega) h2
  | succ n =>
    rw [nI_pred] at h2
    have := clt_f h2 (by omega) (by omega)
    omega

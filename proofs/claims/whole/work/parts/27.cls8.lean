section ADD
variable {cs : Nat → ClassId} {lab : Nat → Nat} {M : wM} {Z : Nat} {ad : Nat → Nat} {w : Nat → Int32} {E : Nat → Nat → Nat → Int32} {J : Nat → Nat → Nat} {nn nb nc np : Nat} {NA BA CA PA : Nat → Option Nat}
theorem CSx.addNote (h : CSx cs lab M Z ad w E J nn nb nc np NA BA CA PA) {q : Nat} {n : Nat → Int32} (hq : M q = some (noteC n)) (hN : NA nn = some q) : CSx cs lab M Z ad w (va_up E 0 (va_up (E 0) nn n)) J (nn + 1) nb nc np NA BA CA PA := by
  have eE : ∀ k, k ≠ 0 → va_up E 0 (va_up (E 0) nn n) k = E k := fun k hk => va_up_ne _ _ hk
  have h2 : CSx cs lab M Z ad w (va_up E 0 (va_up (E 0) nn n)) J nn nb nc np NA BA CA PA := h.mv h.z ⟨by rw [eE 10 (by decide)]; exact h.wd, h.2.1.2⟩ h.na h.ba h.ca h.pa (by rw [eE 9 (by decide)]; exact h.tr) (fun _ _ q => q) (fun _ _ _ _ q => q) (fun _ _ _ _ _ _ _ q => q) (fun i hi => ⟨rfl, by rw [va_up_self, va_up_ne _ _ (by omega)]⟩) (fun i hi => ⟨rfl, by rw [eE 1 (by decide)], by rw [eE 2 (by decide)], by rw [eE 3 (by decide)], rfl⟩) (fun i hi => ⟨rfl, by rw [eE 4 (by decide)], rfl, rfl⟩) (fun i hi => ⟨rfl, fun _ _ _ _ _ q1 q2 q3 _ q5 => ⟨q1, by rw [eE 5 (by decide)]; exact q2, q3, by rw [eE 6 (by decide), eE 7 (by decide), eE 8 (by decide)]; exact q5⟩⟩)
  refine ⟨h2.1, h2.2.1, h2.2.2.1, h2.2.2.2.1, h2.2.2.2.2.1, h2.2.2.2.2.2.1, h2.2.2.2.2.2.2.1, fun i hi => ?_, h2.2.2.2.2.2.2.2.2.1, h2.2.2.2.2.2.2.2.2.2.1, h2.2.2.2.2.2.2.2.2.2.2.1, fun i hi => ?_, h2.2.2.2.2.2.2.2.2.2.2.2.2⟩
  · by_cases z : i = nn
    · subst z; exact ⟨q, hN, by rw [va_up_self, va_up_self]; exact hq⟩
    · exact h2.note i (by omega)
  · have := h2.ji i hi
    omega
theorem CSx.addBar (h : CSx cs lab M Z ad w E J nn nb nc np NA BA CA PA) {q n : Nat} {f gx gy : Nat → Int32} (hq : figAt cs lab M q (10 + 6 * nb) n f gx gy) (hn : n ≤ 4) (hN : BA nb = some q) : CSx cs lab M Z ad w (va_up (va_up (va_up E 1 (va_up (E 1) nb f)) 2 (va_up (E 2) nb gx)) 3 (va_up (E 3) nb gy)) (va_up J 0 (va_up (J 0) nb n)) nn (nb + 1) nc np NA BA CA PA := by
  have eE : ∀ k, k ≠ 1 → k ≠ 2 → k ≠ 3 → va_up (va_up (va_up E 1 (va_up (E 1) nb f)) 2 (va_up (E 2) nb gx)) 3 (va_up (E 3) nb gy) k = E k := fun k h6 h7 h8 => by rw [va_up_ne _ _ h8, va_up_ne _ _ h7, va_up_ne _ _ h6]
  have e1 : va_up (va_up (va_up E 1 (va_up (E 1) nb f)) 2 (va_up (E 2) nb gx)) 3 (va_up (E 3) nb gy) 1 = va_up (E 1) nb f := by rw [va_up_ne _ _ (by decide), va_up_ne _ _ (by decide), va_up_self]
  have e2 : va_up (va_up (va_up E 1 (va_up (E 1) nb f)) 2 (va_up (E 2) nb gx)) 3 (va_up (E 3) nb gy) 2 = va_up (E 2) nb gx := by rw [va_up_ne _ _ (by decide), va_up_self]
  have e3 : va_up (va_up (va_up E 1 (va_up (E 1) nb f)) 2 (va_up (E 2) nb gx)) 3 (va_up (E 3) nb gy) 3 = va_up (E 3) nb gy := by rw [va_up_self]
  have h2 : CSx cs lab M Z ad w (va_up (va_up (va_up E 1 (va_up (E 1) nb f)) 2 (va_up (E 2) nb gx)) 3 (va_up (E 3) nb gy)) (va_up J 0 (va_up (J 0) nb n)) nn nb nc np NA BA CA PA := h.mv h.z ⟨by rw [eE 10 (by decide) (by decide) (by decide)]; exact h.wd, h.2.1.2⟩ h.na h.ba h.ca h.pa (by rw [eE 9 (by decide) (by decide) (by decide)]; exact h.tr) (fun _ _ q => q) (fun _ _ _ _ q => q) (fun _ _ _ _ _ _ _ q => q) (fun i hi => ⟨rfl, by rw [eE 0 (by decide) (by decide) (by decide)]⟩) (fun i hi => ⟨rfl, by rw [e1, va_up_ne _ _ (by omega)], by rw [e2, va_up_ne _ _ (by omega)], by rw [e3, va_up_ne _ _ (by omega)], by rw [va_up_self, va_up_ne _ _ (by omega)]⟩) (fun i hi => ⟨rfl, by rw [eE 4 (by decide) (by decide) (by decide)], by rw [va_up_ne _ _ (by decide)], by rw [va_up_ne _ _ (by decide)]⟩) (fun i hi => ⟨by rw [va_up_ne _ _ (by decide)], fun _ _ _ _ _ q1 q2 q3 _ q5 => ⟨q1, by rw [eE 5 (by decide) (by decide) (by decide)]; exact q2, q3, by rw [eE 6 (by decide) (by decide) (by decide), eE 7 (by decide) (by decide) (by decide), eE 8 (by decide) (by decide) (by decide)]; exact q5⟩⟩)
  refine ⟨h2.1, h2.2.1, h2.2.2.1, h2.2.2.2.1, h2.2.2.2.2.1, h2.2.2.2.2.2.1, h2.2.2.2.2.2.2.1, h2.2.2.2.2.2.2.2.1, fun i hi => ?_, h2.2.2.2.2.2.2.2.2.2.1, h2.2.2.2.2.2.2.2.2.2.2.1, h2.2.2.2.2.2.2.2.2.2.2.2.1, h2.2.2.2.2.2.2.2.2.2.2.2.2⟩
  by_cases z : i = nb
  · subst z; exact ⟨q, hN, by rw [va_up_self, va_up_self]; exact hn, by rw [e1, e2, e3, va_up_self, va_up_self, va_up_self, va_up_self, va_up_self]; exact hq⟩
  · exact h2.bar i (by omega)
/-- a new figure, its labels -/
theorem nF_more {M2 : wM} {r n k : Nat} {f gx gy : Nat → Int32} (h : nF cs M M2 r n f gx gy) : ∃ lab2 : Nat → Nat, (∀ a e, M a = some e → lab2 a = lab a) ∧ (∀ a e, M a = some e → M2 a = some e) ∧ figAt cs lab2 M2 r k n f gx gy ∧ M r = none := by
  obtain ⟨q1, q2, k0, k1, k2, n1, n2, n3, rfl⟩ := h
  refine ⟨va_up (va_up (va_up lab r k) q1 (k + 1)) q2 (k + 2), fun a e ha => ?_, fun a e ha => ?_, ⟨q1, q2, sfg_b n1 n2 n3, sfg_x n1 n2 n3, sfg_y n1 n2 n3, ?_, ?_, ?_⟩, k0⟩
  · rw [va_up_ne _ _ (ne_none ha k2), va_up_ne _ _ (ne_none ha k1), va_up_ne _ _ (ne_none ha k0)]
  · rw [sfg_o (ne_none ha k0) (ne_none ha k1) (ne_none ha k2)]; exact ha
  · rw [va_up_ne _ _ n2, va_up_ne _ _ n1, va_up_self]
  · rw [va_up_ne _ _ n3, va_up_self]
  · rw [va_up_self]
end ADD
def xZero (w : Nat → Int32) : Nat → Int32 := va_up (va_up (va_up (va_up (va_up (va_up w 6 0) 7 0) 8 0) 9 0) 10 0) 11 0
set_option maxHeartbeats 4000000 in
set_option maxRecDepth 100000 in
theorem c_X4_forgetAll (l : Launch) (D : va_G) (cs : Nat → ClassId) (A : Nat → Prop) (M : wM) (Z : Nat) (lab ad : Nat → Nat) (w : Nat → Int32) (E : Nat → Nat → Nat → Int32) (J : Nat → Nat → Nat) (nn nb nc np : Nat) (NA BA CA PA : Nat → Option Nat) (hC : CSx cs lab M Z ad w E J nn nb nc np NA BA CA PA)  : Met l yX4_forgetAll (mw yX4_forgetAll cX4_forgetAll 1 none) { frames := 0, cells := 0, slots := 0, locals := 0 } (wrP D cs A M [.ref Z]) (va_Qv (fun M' => ∃ w', CSx cs lab M' Z ad w' E J 0 0 0 0 NA BA CA PA ∧ w' = xZero w) (wrB D A) A) 0 0 A := by
  refine wr_met rfl (Nat.le_of_ble_eq_true rfl) ?_
  intro p e s m below meth c ls C hW hr hlk hini hl
  have C : kx D cs p m c cX4_forgetAll 1 s _ RX4 := C
  have hx := C.1.1
  have hb := C.1.2.1
  have hl : lv_has ls 1 [(0, .ref Z)] := hl
  refine lv_aload_n hx hb dX4_forgetAll_0 rfl (lv_at hl 0 rfl) ?_
  refine lv_iconst (v := 0) hx hb dX4_forgetAll_1 (by decide) ?_
  refine pf_X4_52 (fs2 := [.ref (ad 0), .ref (ad 1), .ref (ad 2), .ref (ad 3), .ref (ad 4), .ref (ad 5), .int ((va_up w 6 0) 6), .int ((va_up w 6 0) 7), .int ((va_up w 6 0) 8), .int ((va_up w 6 0) 9), .int ((va_up w 6 0) 10), .int ((va_up w 6 0) 11)]) C hW (CSx.z hC) (Nat.le_of_ble_eq_true rfl) rfl dX4_forgetAll_2 (fun H locs hW => ?_)
  obtain ⟨M, w_1, ew_1, hC, hW⟩ : ∃ (M : wM) (w9 : Nat → Int32), w9 = va_up w 6 0 ∧ CSx cs lab M Z ad w9 E J nn nb nc np NA BA CA PA ∧ wd D A M s.heap H locs := ⟨_, _, rfl, CSx.setZ hC _, hW⟩
  refine lv_aload_n hx hb dX4_forgetAll_5 rfl (lv_at hl 0 rfl) ?_
  refine lv_iconst (v := 0) hx hb dX4_forgetAll_6 (by decide) ?_
  refine pf_X4_60 (fs2 := [.ref (ad 0), .ref (ad 1), .ref (ad 2), .ref (ad 3), .ref (ad 4), .ref (ad 5), .int ((va_up w_1 7 0) 6), .int ((va_up w_1 7 0) 7), .int ((va_up w_1 7 0) 8), .int ((va_up w_1 7 0) 9), .int ((va_up w_1 7 0) 10), .int ((va_up w_1 7 0) 11)]) C hW (CSx.z hC) (Nat.le_of_ble_eq_true rfl) rfl dX4_forgetAll_7 (fun H locs hW => ?_)
  obtain ⟨M, w_2, ew_2, hC, hW⟩ : ∃ (M : wM) (w9 : Nat → Int32), w9 = va_up w_1 7 0 ∧ CSx cs lab M Z ad w9 E J nn nb nc np NA BA CA PA ∧ wd D A M s.heap H locs := ⟨_, _, rfl, CSx.setZ hC _, hW⟩
  refine lv_aload_n hx hb dX4_forgetAll_10 rfl (lv_at hl 0 rfl) ?_
  refine lv_iconst (v := 0) hx hb dX4_forgetAll_11 (by decide) ?_
  refine pf_X4_69 (fs2 := [.ref (ad 0), .ref (ad 1), .ref (ad 2), .ref (ad 3), .ref (ad 4), .ref (ad 5), .int ((va_up w_2 8 0) 6), .int ((va_up w_2 8 0) 7), .int ((va_up w_2 8 0) 8), .int ((va_up w_2 8 0) 9), .int ((va_up w_2 8 0) 10), .int ((va_up w_2 8 0) 11)]) C hW (CSx.z hC) (Nat.le_of_ble_eq_true rfl) rfl dX4_forgetAll_12 (fun H locs hW => ?_)
  obtain ⟨M, w_3, ew_3, hC, hW⟩ : ∃ (M : wM) (w9 : Nat → Int32), w9 = va_up w_2 8 0 ∧ CSx cs lab M Z ad w9 E J nn nb nc np NA BA CA PA ∧ wd D A M s.heap H locs := ⟨_, _, rfl, CSx.setZ hC _, hW⟩
  refine lv_aload_n hx hb dX4_forgetAll_15 rfl (lv_at hl 0 rfl) ?_
  refine lv_iconst (v := 0) hx hb dX4_forgetAll_16 (by decide) ?_
  refine pf_X4_72 (fs2 := [.ref (ad 0), .ref (ad 1), .ref (ad 2), .ref (ad 3), .ref (ad 4), .ref (ad 5), .int ((va_up w_3 9 0) 6), .int ((va_up w_3 9 0) 7), .int ((va_up w_3 9 0) 8), .int ((va_up w_3 9 0) 9), .int ((va_up w_3 9 0) 10), .int ((va_up w_3 9 0) 11)]) C hW (CSx.z hC) (Nat.le_of_ble_eq_true rfl) rfl dX4_forgetAll_17 (fun H locs hW => ?_)
  obtain ⟨M, w_4, ew_4, hC, hW⟩ : ∃ (M : wM) (w9 : Nat → Int32), w9 = va_up w_3 9 0 ∧ CSx cs lab M Z ad w9 E J nn nb nc np NA BA CA PA ∧ wd D A M s.heap H locs := ⟨_, _, rfl, CSx.setZ hC _, hW⟩
  refine lv_aload_n hx hb dX4_forgetAll_20 rfl (lv_at hl 0 rfl) ?_
  refine lv_iconst (v := 0) hx hb dX4_forgetAll_21 (by decide) ?_
  refine pf_X4_169 (fs2 := [.ref (ad 0), .ref (ad 1), .ref (ad 2), .ref (ad 3), .ref (ad 4), .ref (ad 5), .int ((va_up w_4 10 0) 6), .int ((va_up w_4 10 0) 7), .int ((va_up w_4 10 0) 8), .int ((va_up w_4 10 0) 9), .int ((va_up w_4 10 0) 10), .int ((va_up w_4 10 0) 11)]) C hW (CSx.z hC) (Nat.le_of_ble_eq_true rfl) rfl dX4_forgetAll_22 (fun H locs hW => ?_)
  obtain ⟨M, w_5, ew_5, hC, hW⟩ : ∃ (M : wM) (w9 : Nat → Int32), w9 = va_up w_4 10 0 ∧ CSx cs lab M Z ad w9 E J nn nb nc np NA BA CA PA ∧ wd D A M s.heap H locs := ⟨_, _, rfl, CSx.setZ hC _, hW⟩
  refine lv_aload_n hx hb dX4_forgetAll_25 rfl (lv_at hl 0 rfl) ?_
  refine lv_iconst (v := 0) hx hb dX4_forgetAll_26 (by decide) ?_
  refine pf_X4_86 (fs2 := [.ref (ad 0), .ref (ad 1), .ref (ad 2), .ref (ad 3), .ref (ad 4), .ref (ad 5), .int ((va_up w_5 11 0) 6), .int ((va_up w_5 11 0) 7), .int ((va_up w_5 11 0) 8), .int ((va_up w_5 11 0) 9), .int ((va_up w_5 11 0) 10), .int ((va_up w_5 11 0) 11)]) C hW (CSx.z hC) (Nat.le_of_ble_eq_true rfl) rfl dX4_forgetAll_27 (fun H locs hW => ?_)
  obtain ⟨M, w_6, ew_6, hC, hW⟩ : ∃ (M : wM) (w9 : Nat → Int32), w9 = va_up w_5 11 0 ∧ CSx cs lab M Z ad w9 E J nn nb nc np NA BA CA PA ∧ wd D A M s.heap H locs := ⟨_, _, rfl, CSx.setZ hC _, hW⟩
  exact wr_vret C hW hr hlk (⟨_, CSx.zero hC, by subst ew_6 ew_5 ew_4 ew_3 ew_2 ew_1; rfl⟩) dX4_forgetAll_30

set_option maxHeartbeats 4000000 in
set_option maxRecDepth 100000 in
theorem c_X4_clear (l : Launch) (D : va_G) (cs : Nat → ClassId) (A : Nat → Prop) (M : wM) (Z : Nat) (lab ad : Nat → Nat) (w : Nat → Int32) (E : Nat → Nat → Nat → Int32) (J : Nat → Nat → Nat) (nn nb nc np : Nat) (NA BA CA PA : Nat → Option Nat) (hC : CSx cs lab M Z ad w E J nn nb nc np NA BA CA PA)  : Met l yX4_clear (mw yX4_clear cX4_clear 2 (some .int)) { frames := 1, cells := 0, slots := 0, locals := 20 } (wrP D cs A M [.ref Z]) (va_Qi (fun r M' => CSx cs lab M' Z ad (xZero w) E J 0 0 0 0 NA BA CA PA ∧ r = w 10) (wrB D A) A) 0 0 A := by
  refine wr_met rfl (Nat.le_of_ble_eq_true rfl) ?_
  intro p e s m below meth c ls C hW hr hlk hini hl
  have C : kx D cs p m c cX4_clear 2 s _ RX4 := C
  have hx := C.1.1
  have hb := C.1.2.1
  have hl : lv_has ls 2 [(0, .ref Z)] := hl
  refine lv_aload_n hx hb dX4_clear_0 rfl (lv_at hl 0 rfl) ?_
  refine gf_X4_169 C hW.rd (CSx.z hC) rfl dX4_clear_1 ?_
  refine lv_istore_n (lv' := [(1, .int (w 10)), (0, .ref Z)]) hx hb dX4_clear_4 rfl hl (by decide) rfl (fun ls hl => ?_)
  refine lv_aload_n hx hb dX4_clear_5 rfl (lv_at hl 1 rfl) ?_
  refine wr_goV hW (wr_V (As := []) (rest := []) C hW st_X4_45 (c_X4_forgetAll l D cs A _ Z lab ad w E J nn nb nc np NA BA CA PA hC) (CSx.z hC) rfl rfl ⟨rfl, rfl, Nat.le_of_ble_eq_true rfl, Nat.le_of_ble_eq_true rfl⟩ rfl hl.1 rfl (Nat.le_of_ble_eq_true rfl) dX4_clear_6 ⟨Nat.le_of_ble_eq_true rfl, Nat.le_of_ble_eq_true rfl⟩) (fun M_6 H locs h_6 hW => ?_)
  obtain ⟨w_1, hC, ew_1⟩ := h_6
  refine lv_iload_n hx hb dX4_clear_9 rfl (lv_at hl 0 rfl) ?_
  exact wr_iret C hW hr hlk (⟨by rw [← ew_1]; exact hC, rfl⟩) dX4_clear_10

def xLine (w : Nat → Int32) (E : Nat → Nat → Nat → Int32) (nl : Nat) (x : Int32) : Int32 × (Nat → Int32) × (Nat → Nat → Nat → Int32) := if inB x 100 1000 = true then (if nl < 4 then (nI nl, va_up w 6 (nI (nl + 1)), va_up E 10 (va_up (E 10) 0 (upd (E 10 0) nl x))) else (-9004, w, E)) else (-9002, w, E)
set_option maxHeartbeats 4000000 in
set_option maxRecDepth 100000 in
theorem c_X4_line (l : Launch) (D : va_G) (cs : Nat → ClassId) (A : Nat → Prop) (M : wM) (Z : Nat) (lab ad : Nat → Nat) (w : Nat → Int32) (E : Nat → Nat → Nat → Int32) (J : Nat → Nat → Nat) (nn nb nc np : Nat) (NA BA CA PA : Nat → Option Nat) (hC : CSx cs lab M Z ad w E J nn nb nc np NA BA CA PA) (nl : Nat) (hnl : w 6 = nI nl) (hl4 : nl ≤ 4) (x : Int32) : Met l yX4_line (mw yX4_line cX4_line 2 (some .int)) { frames := 1, cells := 0, slots := 0, locals := 22 } (wrP D cs A M [.ref Z, .int x]) (va_Qi (fun r M' => ∃ w' E', CSx cs lab M' Z ad w' E' J nn nb nc np NA BA CA PA ∧ (r, w', E') = xLine w E nl x) (wrB D A) A) 0 0 A := by
  refine wr_met rfl (Nat.le_of_ble_eq_true rfl) ?_
  intro p e s m below meth c ls C hW hr hlk hini hl
  have C : kx D cs p m c cX4_line 2 s _ RX4 := C
  have hx := C.1.1
  have hb := C.1.2.1
  have hl : lv_has ls 2 [(0, .ref Z), (1, .int x)] := hl
  refine lv_bipush (v := 100) hx hb dX4_line_0 (by decide) ?_
  refine lv_iload_n hx hb dX4_line_2 rfl (lv_at hl 1 rfl) ?_
  refine lv_sipush (v := 1000) hx hb dX4_line_3 (by decide) ?_
  refine ro_goI (ro_S (As := [.int 100, .int x, .int 1000]) (rest := []) C hW.rd st_X4_48 (c_X4_isFrom l D cs _ 100 x 1000) ⟨rfl, rfl, Nat.le_of_ble_eq_true rfl, Nat.le_of_ble_eq_true rfl⟩ rfl hl.1 rfl (Nat.le_of_ble_eq_true rfl) dX4_line_6 ⟨Nat.le_of_ble_eq_true rfl, Nat.le_of_ble_eq_true rfl⟩) (fun r_6 h_6 => ?_)
  refine lv_if_ne (tgt := 16) hx hb dX4_line_9 (by decide) (fun c_9 => ?_) (fun c_9 => ?_)
  · have c_9 : inB x 100 1000 = true := bz1 h_6 c_9
    refine lv_aload_n hx hb dX4_line_16 rfl (lv_at hl 0 rfl) ?_
    refine gf_X4_52 C hW.rd (CSx.z hC) rfl dX4_line_17 ?_
    refine top_eq (y := nI nl) hnl ?_
    refine lv_iconst (v := 4) hx hb dX4_line_20 (by decide) ?_
    refine lv_icmp_lt (tgt := 28) hx hb dX4_line_21 (by decide) (fun c_21 => ?_) (fun c_21 => ?_)
    · have c_21 := clt_t (a := nl) (b := 4) c_21 (by omega) (by omega)
      refine lv_aload_n hx hb dX4_line_28 rfl (lv_at hl 0 rfl) ?_
      refine gf_X4_9 C hW.rd (CSx.z hC) rfl dX4_line_29 ?_
      refine lv_aload_n hx hb dX4_line_32 rfl (lv_at hl 0 rfl) ?_
      refine gf_X4_52 C hW.rd (CSx.z hC) rfl dX4_line_33 ?_
      refine top_eq (y := nI nl) hnl ?_
      refine lv_iload_n hx hb dX4_line_36 rfl (lv_at hl 1 rfl) ?_
      refine w_iastN (k := nl) C hW (CSx.wd hC) (by omega) (by decide) rfl dX4_line_37 (fun H locs hW => ?_)
      obtain ⟨M, E_1, eE_1, hC, hW⟩ : ∃ (M : wM) (E9 : Nat → Nat → Nat → Int32), E9 = va_up E 10 (va_up (E 10) 0 (upd (E 10 0) nl x)) ∧ CSx cs lab M Z ad w E9 J nn nb nc np NA BA CA PA ∧ wd D A M s.heap H locs := ⟨_, _, rfl, CSx.setW hC _, hW⟩
      refine lv_aload_n hx hb dX4_line_38 rfl (lv_at hl 0 rfl) ?_
      refine lv_dup hx hb dX4_line_39 rfl ?_
      refine gf_X4_52 C hW.rd (CSx.z hC) rfl dX4_line_40 ?_
      refine top_eq (y := nI nl) hnl ?_
      refine lv_dup_x1 hx hb dX4_line_43 rfl rfl ?_
      refine lv_iconst (v := 1) hx hb dX4_line_44 (by decide) ?_
      refine lv_iadd hx hb dX4_line_45 ?_
      refine top_eq (y := nI (nl + 1)) (tn_add rfl rfl) ?_
      refine pf_X4_52 (fs2 := [.ref (ad 0), .ref (ad 1), .ref (ad 2), .ref (ad 3), .ref (ad 4), .ref (ad 5), .int ((va_up w 6 (nI (nl + 1))) 6), .int ((va_up w 6 (nI (nl + 1))) 7), .int ((va_up w 6 (nI (nl + 1))) 8), .int ((va_up w 6 (nI (nl + 1))) 9), .int ((va_up w 6 (nI (nl + 1))) 10), .int ((va_up w 6 (nI (nl + 1))) 11)]) C hW (CSx.z hC) (Nat.le_of_ble_eq_true rfl) rfl dX4_line_46 (fun H locs hW => ?_)
      obtain ⟨M, w_2, ew_2, hC, hW⟩ : ∃ (M : wM) (w9 : Nat → Int32), w9 = va_up w 6 (nI (nl + 1)) ∧ CSx cs lab M Z ad w9 E_1 J nn nb nc np NA BA CA PA ∧ wd D A M s.heap H locs := ⟨_, _, rfl, CSx.setZ hC _, hW⟩
      exact wr_iret C hW hr hlk (⟨_, _, hC, by rw [xLine, if_pos c_9, if_pos c_21]; subst ew_2 eE_1; rfl⟩) dX4_line_49
    · have c_21 := clt_f (a := nl) (b := 4) c_21 (by omega) (by omega)
      refine lv_sipush (v := (-9004)) hx hb dX4_line_24 (by decide) ?_
      exact wr_iret C hW hr hlk (⟨_, _, hC, by rw [xLine, if_pos c_9, if_neg (by omega)]⟩) dX4_line_27
  · have c_9 : ¬ (inB x 100 1000 = true) := bz0 h_6 c_9
    refine lv_sipush (v := (-9002)) hx hb dX4_line_12 (by decide) ?_
    exact wr_iret C hW hr hlk (⟨_, _, hC, by rw [xLine, if_neg c_9]⟩) dX4_line_15

def xNote (w : Nat → Int32) (E : Nat → Nat → Nat → Int32) (nn : Nat) (l x y u : Int32) : Int32 × (Nat → Int32) × (Nat → Nat → Nat → Int32) × Nat := if inB l 0 (w 6 - 1) = true then (if inB x 0 (E 10 0 l.toNatClampNeg) = true ∧ inB y (-100) 100 = true then (if nn < 60 then (nI nn, va_up w 7 (nI (nn + 1)), va_up E 0 (va_up (E 0) nn (nt5 (nI nn) l x y u)), nn + 1) else (-9004, w, E, nn)) else (-9002, w, E, nn)) else (-9001, w, E, nn)
set_option maxHeartbeats 4000000 in
set_option maxRecDepth 100000 in
theorem c_X4_note (l : Launch) (D : va_G) (cs : Nat → ClassId) (A : Nat → Prop) (M : wM) (Z : Nat) (lab ad : Nat → Nat) (w : Nat → Int32) (E : Nat → Nat → Nat → Int32) (J : Nat → Nat → Nat) (nn nb nc np : Nat) (NA BA CA PA : Nat → Option Nat) (hC : CSx cs lab M Z ad w E J nn nb nc np NA BA CA PA) (nl : Nat) (hnl : w 6 = nI nl) (hl4 : nl ≤ 4) (hnn : w 7 = nI nn) (hn60 : nn ≤ 60) (p1 x y u : Int32) (hup : u = 0 ∨ u = 1) : Met l yX4_note (mw yX4_note cX4_note 5 (some .int)) { frames := 2, cells := 1, slots := 5, locals := 45 } (wrP D cs A M [.ref Z, .int p1, .int x, .int y, .int u]) (va_Qi (fun r M' => ∃ w' E' n' NA', CSx cs lab M' Z ad w' E' J n' nb nc np NA' BA CA PA ∧ (r, w', E', n') = xNote w E nn p1 x y u) (wrB D A) A) 1 5 A := by
  refine wr_met rfl (Nat.le_of_ble_eq_true rfl) ?_
  intro p e s m below meth c ls C hW hr hlk hini hl
  have C : kx D cs p m c cX4_note 5 s _ RX4 := C
  have hx := C.1.1
  have hb := C.1.2.1
  have hl : lv_has ls 5 [(0, .ref Z), (1, .int p1), (2, .int x), (3, .int y), (4, .int u)] := hl
  refine lv_aload_n hx hb dX4_note_0 rfl (lv_at hl 0 rfl) ?_
  refine lv_iload_n hx hb dX4_note_1 rfl (lv_at hl 1 rfl) ?_
  refine ro_goI (ro_V (As := [.int p1]) (rest := []) C hW.rd st_X4_56 (c_X4_isLine l D cs _ Z lab ad w E J nn nb nc np NA BA CA PA hC p1) (CSx.z hC) rfl rfl ⟨rfl, rfl, Nat.le_of_ble_eq_true rfl, Nat.le_of_ble_eq_true rfl⟩ rfl hl.1 rfl (Nat.le_of_ble_eq_true rfl) dX4_note_2 ⟨Nat.le_of_ble_eq_true rfl, Nat.le_of_ble_eq_true rfl⟩) (fun r_2 h_2 => ?_)
  refine lv_if_ne (tgt := 12) hx hb dX4_note_5 (by decide) (fun c_5 => ?_) (fun c_5 => ?_)
  · have c_5 : inB p1 0 (w 6 - 1) = true := bz1 h_2 c_5
    obtain ⟨j, hjj, rfl⟩ := inP_nat c_5 hnl (by omega)
    have hclj := nI_clamp (n := j) (by omega)
    refine lv_iconst (v := 0) hx hb dX4_note_12 (by decide) ?_
    refine lv_iload_n hx hb dX4_note_13 rfl (lv_at hl 2 rfl) ?_
    refine lv_aload_n hx hb dX4_note_14 rfl (lv_at hl 0 rfl) ?_
    refine gf_X4_9 C hW.rd (CSx.z hC) rfl dX4_note_15 ?_
    refine lv_iload_n hx hb dX4_note_18 rfl (lv_at hl 1 rfl) ?_
    refine r_ialdN (k := j) C hW.rd (CSx.wd hC) (by omega) (by decide) rfl dX4_note_19 ?_
    refine ro_goI (ro_S (As := [.int 0, .int x, .int (E 10 0 j)]) (rest := []) C hW.rd st_X4_48 (c_X4_isFrom l D cs _ 0 x (E 10 0 j)) ⟨rfl, rfl, Nat.le_of_ble_eq_true rfl, Nat.le_of_ble_eq_true rfl⟩ rfl hl.1 rfl (Nat.le_of_ble_eq_true rfl) dX4_note_20 ⟨Nat.le_of_ble_eq_true rfl, Nat.le_of_ble_eq_true rfl⟩) (fun r_20 h_20 => ?_)
    refine lv_if_eq (tgt := 37) hx hb dX4_note_23 (by decide) (fun c_23 => ?_) (fun c_23 => ?_)
    · have c_23 : ¬ (inB x 0 (E 10 0 j) = true) := bz0 h_20 c_23
      refine lv_sipush (v := (-9002)) hx hb dX4_note_37 (by decide) ?_
      refine W.widen (k := 1) (n := 5) (by decide) (by decide) ?_
      exact wr_iret C hW hr hlk (⟨_, _, _, _, hC, by rw [xNote, if_pos c_5, hclj, if_neg (fun h => c_23 h.1)]⟩) dX4_note_40
    · have c_23 : inB x 0 (E 10 0 j) = true := bz1 h_20 c_23
      refine lv_bipush (v := (-100)) hx hb dX4_note_26 (by decide) ?_
      refine lv_iload_n hx hb dX4_note_28 rfl (lv_at hl 3 rfl) ?_
      refine lv_bipush (v := 100) hx hb dX4_note_29 (by decide) ?_
      refine ro_goI (ro_S (As := [.int (-100), .int y, .int 100]) (rest := []) C hW.rd st_X4_48 (c_X4_isFrom l D cs _ (-100) y 100) ⟨rfl, rfl, Nat.le_of_ble_eq_true rfl, Nat.le_of_ble_eq_true rfl⟩ rfl hl.1 rfl (Nat.le_of_ble_eq_true rfl) dX4_note_31 ⟨Nat.le_of_ble_eq_true rfl, Nat.le_of_ble_eq_true rfl⟩) (fun r_31 h_31 => ?_)
      refine lv_if_ne (tgt := 41) hx hb dX4_note_34 (by decide) (fun c_34 => ?_) (fun c_34 => ?_)
      · have c_34 : inB y (-100) 100 = true := bz1 h_31 c_34
        refine lv_aload_n hx hb dX4_note_41 rfl (lv_at hl 0 rfl) ?_
        refine gf_X4_60 C hW.rd (CSx.z hC) rfl dX4_note_42 ?_
        refine top_eq (y := nI nn) hnn ?_
        refine lv_bipush (v := 60) hx hb dX4_note_45 (by decide) ?_
        refine lv_icmp_lt (tgt := 54) hx hb dX4_note_47 (by decide) (fun c_47 => ?_) (fun c_47 => ?_)
        · have c_47 := clt_t (a := nn) (b := 60) c_47 (by omega) (by omega)
          refine lv_aload_n hx hb dX4_note_54 rfl (lv_at hl 0 rfl) ?_
          refine gf_X4_15 C hW.rd (CSx.z hC) rfl dX4_note_55 ?_
          refine lv_aload_n hx hb dX4_note_58 rfl (lv_at hl 0 rfl) ?_
          refine gf_X4_60 C hW.rd (CSx.z hC) rfl dX4_note_59 ?_
          refine top_eq (y := nI nn) hnn ?_
          refine w_new (ci := 2) (fs := [.int 0, .int 0, .int 0, .int 0, .int 0]) C hW rfl inX2 tyX2 tyX2_ok wm_14 wm_102 wm_103 (fun j hj => by rcases (show j = 0 ∨ j = 1 ∨ j = 2 ∨ j = 3 ∨ j = 4 by omega) with rfl | rfl | rfl | rfl | rfl <;> rfl) (by decide) (by decide) dX4_note_62 (fun q_62 H nq_62 hW => ?_)
          have hC0 := hC
          have hC := CSx.more hC0 (fun _ _ z => up_keep (e2 := some (.inr (2, [.int 0, .int 0, .int 0, .int 0, .int 0]))) z nq_62)
          refine lv_dup hx hb dX4_note_65 rfl ?_
          refine lv_aload_n hx hb dX4_note_66 rfl (lv_at hl 0 rfl) ?_
          refine gf_X4_60 C hW.rd (CSx.z hC) rfl dX4_note_67 ?_
          refine top_eq (y := nI nn) hnn ?_
          refine lv_iload_n hx hb dX4_note_70 rfl (lv_at hl 1 rfl) ?_
          refine lv_iload_n hx hb dX4_note_71 rfl (lv_at hl 2 rfl) ?_
          refine lv_iload_n hx hb dX4_note_72 rfl (lv_at hl 3 rfl) ?_
          refine lv_iload hx hb dX4_note_73 (lv_at hl 4 rfl) ?_
          refine wr_goV hW (wr_I (As := [.int (nI nn), .int (nI j), .int x, .int y, .int u]) (rest := [.ref q_62, .int (nI nn), .ref (ad 1)]) C hW st_X4_63 (c_X2_init l D cs A _ q_62 (va_up_self _ _ _) (nI nn) (nI j) x y u hup) ⟨rfl, rfl, Nat.le_of_ble_eq_true rfl, Nat.le_of_ble_eq_true rfl⟩ rfl hl.1 rfl (Nat.le_of_ble_eq_true rfl) dX4_note_75 ⟨Nat.le_of_ble_eq_true rfl, Nat.le_of_ble_eq_true rfl⟩) (fun M_75 H locs h_75 hW => ?_)
          rw [h_75, bx_uu] at hW
          have hC := CSx.more hC0 (fun _ _ z => up_keep (e2 := some (noteC (nt5 (nI nn) (nI j) x y u))) z nq_62)
          refine w_aastN (k := nn) C hW 5 2 (CSx.na hC) rfl (va_up_self _ _ _) rfl (by omega) (by decide) rfl dX4_note_78 (fun H locs hW => ?_)
          obtain ⟨M, hC, hq, hW⟩ : ∃ (M : wM), CSx cs lab M Z ad w E J nn nb nc np (va_up NA nn (some q_62)) BA CA PA ∧ M q_62 = some (noteC (nt5 (nI nn) (nI j) x y u)) ∧ wd D A M s.heap H locs := ⟨_, CSx.setNA hC _ (fun i hi => va_up_ne _ _ (by omega)), up_o (CSx.na hC) (va_up_self _ _ _) k_nr, hW⟩
          refine lv_aload_n hx hb dX4_note_79 rfl (lv_at hl 0 rfl) ?_
          refine lv_dup hx hb dX4_note_80 rfl ?_
          refine gf_X4_60 C hW.rd (CSx.z hC) rfl dX4_note_81 ?_
          refine top_eq (y := nI nn) hnn ?_
          refine lv_dup_x1 hx hb dX4_note_84 rfl rfl ?_
          refine lv_iconst (v := 1) hx hb dX4_note_85 (by decide) ?_
          refine lv_iadd hx hb dX4_note_86 ?_
          refine top_eq (y := nI (nn + 1)) (tn_add rfl rfl) ?_
          refine pf_X4_60 (fs2 := [.ref (ad 0), .ref (ad 1), .ref (ad 2), .ref (ad 3), .ref (ad 4), .ref (ad 5), .int ((va_up w 7 (nI (nn + 1))) 6), .int ((va_up w 7 (nI (nn + 1))) 7), .int ((va_up w 7 (nI (nn + 1))) 8), .int ((va_up w 7 (nI (nn + 1))) 9), .int ((va_up w 7 (nI (nn + 1))) 10), .int ((va_up w 7 (nI (nn + 1))) 11)]) C hW (CSx.z hC) (Nat.le_of_ble_eq_true rfl) rfl dX4_note_87 (fun H locs hW => ?_)
          obtain ⟨M, w_1, ew_1, hC, hq, hW⟩ : ∃ (M : wM) (w9 : Nat → Int32), w9 = va_up w 7 (nI (nn + 1)) ∧ CSx cs lab M Z ad w9 E J nn nb nc np (va_up NA nn (some q_62)) BA CA PA ∧ M q_62 = some (noteC (nt5 (nI nn) (nI j) x y u)) ∧ wd D A M s.heap H locs := ⟨_, _, rfl, CSx.setZ hC _, up_o (CSx.z hC) hq k_nx, hW⟩
          refine W.widen (k := 1) (n := 5) (by decide) (by decide) ?_
          exact wr_iret C hW hr hlk (⟨_, _, _, _, CSx.addNote hC hq (va_up_self _ _ _), by rw [xNote, if_pos c_5, hclj, if_pos ⟨c_23, c_34⟩, if_pos c_47]; subst ew_1; rfl⟩) dX4_note_90
        · have c_47 := clt_f (a := nn) (b := 60) c_47 (by omega) (by omega)
          refine lv_sipush (v := (-9004)) hx hb dX4_note_50 (by decide) ?_
          refine W.widen (k := 1) (n := 5) (by decide) (by decide) ?_
          exact wr_iret C hW hr hlk (⟨_, _, _, _, hC, by rw [xNote, if_pos c_5, hclj, if_pos ⟨c_23, c_34⟩, if_neg (by omega)]⟩) dX4_note_53
      · have c_34 : ¬ (inB y (-100) 100 = true) := bz0 h_31 c_34
        refine lv_sipush (v := (-9002)) hx hb dX4_note_37 (by decide) ?_
        refine W.widen (k := 1) (n := 5) (by decide) (by decide) ?_
        exact wr_iret C hW hr hlk (⟨_, _, _, _, hC, by rw [xNote, if_pos c_5, hclj, if_neg (fun h => c_34 h.2)]⟩) dX4_note_40
  · have c_5 : ¬ (inB p1 0 (w 6 - 1) = true) := bz0 h_2 c_5
    refine lv_sipush (v := (-9001)) hx hb dX4_note_8 (by decide) ?_
    refine W.widen (k := 1) (n := 5) (by decide) (by decide) ?_
    exact wr_iret C hW hr hlk (⟨_, _, _, _, hC, by rw [xNote, if_neg c_5]⟩) dX4_note_11

def xAddB (E : Nat → Nat → Nat → Int32) (nb : Nat) (f gx gy : Nat → Int32) : Nat → Nat → Nat → Int32 := va_up (va_up (va_up E 1 (va_up (E 1) nb f)) 2 (va_up (E 2) nb gx)) 3 (va_up (E 3) nb gy)
def xAddJ (J : Nat → Nat → Nat) (nb n : Nat) : Nat → Nat → Nat := va_up J 0 (va_up (J 0) nb n)
def xMark (w : Nat → Int32) (E : Nat → Nat → Nat → Int32) (J : Nat → Nat → Nat) (nm nb : Nat) (l x y v h : Int32) : Int32 × (Nat → Int32) × (Nat → Nat → Nat → Int32) × (Nat → Nat → Nat) × Nat := if inB l 0 (w 6 - 1) = true then (if xBar E l.toNatClampNeg x y = true ∧ inB v 1 200 = true ∧ inB h 1 200 = true then (if nm < 40 then (nI (nm + 1), va_up w 8 (nI (nm + 1)), xAddB E nb (frF l (rcX x v) (rcY y h) 3) (rcX x v) (rcY y h), xAddJ J nb 4, nb + 1) else (-9004, w, E, J, nb)) else (-9002, w, E, J, nb)) else (-9001, w, E, J, nb)
def xWedge (w : Nat → Int32) (E : Nat → Nat → Nat → Int32) (J : Nat → Nat → Nat) (nw nb : Nat) (l x z y h : Int32) : Int32 × (Nat → Int32) × (Nat → Nat → Nat → Int32) × (Nat → Nat → Nat) × Nat := if inB l 0 (w 6 - 1) = true then (if xBar E l.toNatClampNeg x y = true ∧ xBar E l.toNatClampNeg z y = true ∧ ¬ x = z ∧ inB h 1 40 = true then (if nw < 12 then (nI (nw + 1), va_up w 9 (nI (nw + 1)), xAddB E nb (frF l (trX x z) (trY y h) 2) (trX x z) (trY y h), xAddJ J nb 3, nb + 1) else (-9004, w, E, J, nb)) else (-9002, w, E, J, nb)) else (-9001, w, E, J, nb)
set_option maxHeartbeats 4000000 in
set_option maxRecDepth 100000 in
theorem c_X4_mark (l : Launch) (D : va_G) (cs : Nat → ClassId) (A : Nat → Prop) (M : wM) (Z : Nat) (lab ad : Nat → Nat) (w : Nat → Int32) (E : Nat → Nat → Nat → Int32) (J : Nat → Nat → Nat) (nn nb nc np : Nat) (NA BA CA PA : Nat → Option Nat) (hC : CSx cs lab M Z ad w E J nn nb nc np NA BA CA PA) (nl nm nw : Nat) (hnl : w 6 = nI nl) (hl4 : nl ≤ 4) (hnm : w 8 = nI nm) (hm40 : nm ≤ 40) (hnw : w 9 = nI nw) (hw12 : nw ≤ 12) (hb9 : nb = nm + nw) (p1 x y v h0 : Int32) : Met l yX4_mark (mw yX4_mark cX4_mark 6 (some .int)) { frames := 3, cells := 3, slots := 15, locals := 67 } (wrP D cs A M [.ref Z, .int p1, .int x, .int y, .int v, .int h0]) (va_Qi (fun r M' => ∃ lab' w' E' J' n' BA', CSx cs lab' M' Z ad w' E' J' nn n' nc np NA BA' CA PA ∧ (r, w', E', J', n') = xMark w E J nm nb p1 x y v h0) (wrB D A) A) 3 15 A := by
  refine wr_met rfl (Nat.le_of_ble_eq_true rfl) ?_
  intro p e s m below meth c ls C hW hr hlk hini hl
  have C : kx D cs p m c cX4_mark 6 s _ RX4 := C
  have hx := C.1.1
  have hb := C.1.2.1
  have hl : lv_has ls 6 [(0, .ref Z), (1, .int p1), (2, .int x), (3, .int y), (4, .int v), (5, .int h0)] := hl
  refine lv_aload_n hx hb dX4_mark_0 rfl (lv_at hl 0 rfl) ?_
  refine lv_iload_n hx hb dX4_mark_1 rfl (lv_at hl 1 rfl) ?_
  refine ro_goI (ro_V (As := [.int p1]) (rest := []) C hW.rd st_X4_56 (c_X4_isLine l D cs _ Z lab ad w E J nn nb nc np NA BA CA PA hC p1) (CSx.z hC) rfl rfl ⟨rfl, rfl, Nat.le_of_ble_eq_true rfl, Nat.le_of_ble_eq_true rfl⟩ rfl hl.1 rfl (Nat.le_of_ble_eq_true rfl) dX4_mark_2 ⟨Nat.le_of_ble_eq_true rfl, Nat.le_of_ble_eq_true rfl⟩) (fun r_2 h_2 => ?_)
  refine lv_if_ne (tgt := 12) hx hb dX4_mark_5 (by decide) (fun c_5 => ?_) (fun c_5 => ?_)
  · have c_5 : inB p1 0 (w 6 - 1) = true := bz1 h_2 c_5
    obtain ⟨j, hjj, rfl⟩ := inP_nat c_5 hnl (by omega)
    have hclj := nI_clamp (n := j) (by omega)
    refine lv_aload_n hx hb dX4_mark_12 rfl (lv_at hl 0 rfl) ?_
    refine lv_iload_n hx hb dX4_mark_13 rfl (lv_at hl 1 rfl) ?_
    refine lv_iload_n hx hb dX4_mark_14 rfl (lv_at hl 2 rfl) ?_
    refine lv_iload_n hx hb dX4_mark_15 rfl (lv_at hl 3 rfl) ?_
    refine ro_goI (ro_V (As := [.int (nI j), .int x, .int y]) (rest := []) C hW.rd st_X4_66 (c_X4_isBarPlace l D cs _ Z lab ad w E J nn nb nc np NA BA CA PA hC j (by omega) x y) (CSx.z hC) rfl rfl ⟨rfl, rfl, Nat.le_of_ble_eq_true rfl, Nat.le_of_ble_eq_true rfl⟩ rfl hl.1 rfl (Nat.le_of_ble_eq_true rfl) dX4_mark_16 ⟨Nat.le_of_ble_eq_true rfl, Nat.le_of_ble_eq_true rfl⟩) (fun r_16 h_16 => ?_)
    refine lv_if_eq (tgt := 46) hx hb dX4_mark_19 (by decide) (fun c_19 => ?_) (fun c_19 => ?_)
    · have c_19 : ¬ (xBar E j x y = true) := bz0 h_16 c_19
      refine lv_sipush (v := (-9002)) hx hb dX4_mark_46 (by decide) ?_
      refine W.widen (k := 3) (n := 15) (by decide) (by decide) ?_
      exact wr_iret C hW hr hlk (⟨_, _, _, _, _, _, hC, by rw [xMark, if_pos c_5, hclj, if_neg (fun h => c_19 h.1)]⟩) dX4_mark_49
    · have c_19 : xBar E j x y = true := bz1 h_16 c_19
      refine lv_iconst (v := 1) hx hb dX4_mark_22 (by decide) ?_
      refine lv_iload hx hb dX4_mark_23 (lv_at hl 4 rfl) ?_
      refine lv_sipush (v := 200) hx hb dX4_mark_25 (by decide) ?_
      refine ro_goI (ro_S (As := [.int 1, .int v, .int 200]) (rest := []) C hW.rd st_X4_48 (c_X4_isFrom l D cs _ 1 v 200) ⟨rfl, rfl, Nat.le_of_ble_eq_true rfl, Nat.le_of_ble_eq_true rfl⟩ rfl hl.1 rfl (Nat.le_of_ble_eq_true rfl) dX4_mark_28 ⟨Nat.le_of_ble_eq_true rfl, Nat.le_of_ble_eq_true rfl⟩) (fun r_28 h_28 => ?_)
      refine lv_if_eq (tgt := 46) hx hb dX4_mark_31 (by decide) (fun c_31 => ?_) (fun c_31 => ?_)
      · have c_31 : ¬ (inB v 1 200 = true) := bz0 h_28 c_31
        refine lv_sipush (v := (-9002)) hx hb dX4_mark_46 (by decide) ?_
        refine W.widen (k := 3) (n := 15) (by decide) (by decide) ?_
        exact wr_iret C hW hr hlk (⟨_, _, _, _, _, _, hC, by rw [xMark, if_pos c_5, hclj, if_neg (fun h => c_31 h.2.1)]⟩) dX4_mark_49
      · have c_31 : inB v 1 200 = true := bz1 h_28 c_31
        refine lv_iconst (v := 1) hx hb dX4_mark_34 (by decide) ?_
        refine lv_iload hx hb dX4_mark_35 (lv_at hl 5 rfl) ?_
        refine lv_sipush (v := 200) hx hb dX4_mark_37 (by decide) ?_
        refine ro_goI (ro_S (As := [.int 1, .int h0, .int 200]) (rest := []) C hW.rd st_X4_48 (c_X4_isFrom l D cs _ 1 h0 200) ⟨rfl, rfl, Nat.le_of_ble_eq_true rfl, Nat.le_of_ble_eq_true rfl⟩ rfl hl.1 rfl (Nat.le_of_ble_eq_true rfl) dX4_mark_40 ⟨Nat.le_of_ble_eq_true rfl, Nat.le_of_ble_eq_true rfl⟩) (fun r_40 h_40 => ?_)
        refine lv_if_ne (tgt := 50) hx hb dX4_mark_43 (by decide) (fun c_43 => ?_) (fun c_43 => ?_)
        · have c_43 : inB h0 1 200 = true := bz1 h_40 c_43
          refine lv_aload_n hx hb dX4_mark_50 rfl (lv_at hl 0 rfl) ?_
          refine gf_X4_69 C hW.rd (CSx.z hC) rfl dX4_mark_51 ?_
          refine top_eq (y := nI nm) hnm ?_
          refine lv_bipush (v := 40) hx hb dX4_mark_54 (by decide) ?_
          refine lv_icmp_lt (tgt := 63) hx hb dX4_mark_56 (by decide) (fun c_56 => ?_) (fun c_56 => ?_)
          · have c_56 := clt_t (a := nm) (b := 40) c_56 (by omega) (by omega)
            refine lv_aload_n hx hb dX4_mark_63 rfl (lv_at hl 0 rfl) ?_
            refine gf_X4_21 C hW.rd (CSx.z hC) rfl dX4_mark_64 ?_
            refine lv_aload_n hx hb dX4_mark_67 rfl (lv_at hl 0 rfl) ?_
            refine gf_X4_69 C hW.rd (CSx.z hC) rfl dX4_mark_68 ?_
            refine top_eq (y := nI nm) hnm ?_
            refine lv_aload_n hx hb dX4_mark_71 rfl (lv_at hl 0 rfl) ?_
            refine gf_X4_72 C hW.rd (CSx.z hC) rfl dX4_mark_72 ?_
            refine top_eq (y := nI nw) hnw ?_
            refine lv_iadd hx hb dX4_mark_75 ?_
            refine top_eq (y := nI (nm + nw)) (tn_add rfl rfl) ?_
            refine lv_iload_n hx hb dX4_mark_76 rfl (lv_at hl 1 rfl) ?_
            refine lv_iload_n hx hb dX4_mark_77 rfl (lv_at hl 2 rfl) ?_
            refine lv_iload_n hx hb dX4_mark_78 rfl (lv_at hl 3 rfl) ?_
            refine lv_iload hx hb dX4_mark_79 (lv_at hl 4 rfl) ?_
            refine lv_iload hx hb dX4_mark_81 (lv_at hl 5 rfl) ?_
            refine wr_goR hW (wr_S (As := [.int (nI j), .int x, .int y, .int v, .int h0]) (rest := [.int (nI (nm + nw)), .ref (ad 2)]) C hW st_X4_75 (c_X1_rectangle l D cs A _ (nI j) x y v h0) ⟨rfl, rfl, Nat.le_of_ble_eq_true rfl, Nat.le_of_ble_eq_true rfl⟩ rfl hl.1 rfl (Nat.le_of_ble_eq_true rfl) dX4_mark_83 ⟨Nat.le_of_ble_eq_true rfl, Nat.le_of_ble_eq_true rfl⟩) (fun r_83 M_83 H locs h_83 hW => ?_)
            obtain ⟨lab2, hl2, hm2, hfg, hrn⟩ := nF_more (lab := lab) (k := 10 + 6 * nb) h_83
            have hC := CSx.more (CSx.relab hC hl2) hm2
            obtain ⟨fxq, fyq, hq1, hq2, hq3, hq4, hq5, hq6⟩ := hfg
            refine w_aastN (k := (nm + nw)) C hW 4 1 (CSx.ba hC) rfl hq1 rfl (by omega) (by decide) rfl dX4_mark_86 (fun H locs hW => ?_)
            obtain ⟨M, hC, hq, hW⟩ : ∃ (M : wM), CSx cs lab2 M Z ad w E J nn nb nc np NA (va_up BA (nm + nw) (some r_83)) CA PA ∧ figAt cs lab2 M r_83 (10 + 6 * nb) 4 (frF (nI j) (rcX x v) (rcY y h0) 3) (rcX x v) (rcY y h0) ∧ wd D A M s.heap H locs := ⟨_, CSx.setBA hC _ (fun i hi => va_up_ne _ _ (by omega)), ⟨fxq, fyq, up_o (CSx.ba hC) hq1 k_fr, up_o (CSx.ba hC) hq2 k_ar, up_o (CSx.ba hC) hq3 k_ar, hq4, hq5, hq6⟩, hW⟩
            refine lv_aload_n hx hb dX4_mark_87 rfl (lv_at hl 0 rfl) ?_
            refine lv_dup hx hb dX4_mark_88 rfl ?_
            refine gf_X4_69 C hW.rd (CSx.z hC) rfl dX4_mark_89 ?_
            refine top_eq (y := nI nm) hnm ?_
            refine lv_iconst (v := 1) hx hb dX4_mark_92 (by decide) ?_
            refine lv_iadd hx hb dX4_mark_93 ?_
            refine top_eq (y := nI (nm + 1)) (tn_add rfl rfl) ?_
            refine lv_dup_x1 hx hb dX4_mark_94 rfl rfl ?_
            refine pf_X4_69 (fs2 := [.ref (ad 0), .ref (ad 1), .ref (ad 2), .ref (ad 3), .ref (ad 4), .ref (ad 5), .int ((va_up w 8 (nI (nm + 1))) 6), .int ((va_up w 8 (nI (nm + 1))) 7), .int ((va_up w 8 (nI (nm + 1))) 8), .int ((va_up w 8 (nI (nm + 1))) 9), .int ((va_up w 8 (nI (nm + 1))) 10), .int ((va_up w 8 (nI (nm + 1))) 11)]) C hW (CSx.z hC) (Nat.le_of_ble_eq_true rfl) rfl dX4_mark_95 (fun H locs hW => ?_)
            obtain ⟨M, w_1, ew_1, hC, hq, hW⟩ : ∃ (M : wM) (w9 : Nat → Int32), w9 = va_up w 8 (nI (nm + 1)) ∧ CSx cs lab2 M Z ad w9 E J nn nb nc np NA (va_up BA (nm + nw) (some r_83)) CA PA ∧ figAt cs lab2 M r_83 (10 + 6 * nb) 4 (frF (nI j) (rcX x v) (rcY y h0) 3) (rcX x v) (rcY y h0) ∧ wd D A M s.heap H locs := ⟨_, _, rfl, CSx.setZ hC _, hq.mv (fun _ _ _ _ q => up_o (CSx.z hC) q k_fx) (fun _ _ _ q _ => up_o (CSx.z hC) q k_ax), hW⟩
            refine W.widen (k := 3) (n := 15) (by decide) (by decide) ?_
            exact wr_iret C hW hr hlk (⟨_, _, _, _, _, _, CSx.addBar hC hq (by decide) (by rw [hb9]; exact va_up_self _ _ _), by rw [xMark, if_pos c_5, hclj, if_pos ⟨c_19, c_31, c_43⟩, if_pos c_56]; subst ew_1; rfl⟩) dX4_mark_98
          · have c_56 := clt_f (a := nm) (b := 40) c_56 (by omega) (by omega)
            refine lv_sipush (v := (-9004)) hx hb dX4_mark_59 (by decide) ?_
            refine W.widen (k := 3) (n := 15) (by decide) (by decide) ?_
            exact wr_iret C hW hr hlk (⟨_, _, _, _, _, _, hC, by rw [xMark, if_pos c_5, hclj, if_pos ⟨c_19, c_31, c_43⟩, if_neg (by omega)]⟩) dX4_mark_62
        · have c_43 : ¬ (inB h0 1 200 = true) := bz0 h_40 c_43
          refine lv_sipush (v := (-9002)) hx hb dX4_mark_46 (by decide) ?_
          refine W.widen (k := 3) (n := 15) (by decide) (by decide) ?_
          exact wr_iret C hW hr hlk (⟨_, _, _, _, _, _, hC, by rw [xMark, if_pos c_5, hclj, if_neg (fun h => c_43 h.2.2)]⟩) dX4_mark_49
  · have c_5 : ¬ (inB p1 0 (w 6 - 1) = true) := bz0 h_2 c_5
    refine lv_sipush (v := (-9001)) hx hb dX4_mark_8 (by decide) ?_
    refine W.widen (k := 3) (n := 15) (by decide) (by decide) ?_
    exact wr_iret C hW hr hlk (⟨_, _, _, _, _, _, hC, by rw [xMark, if_neg c_5]⟩) dX4_mark_11

set_option maxHeartbeats 4000000 in
set_option maxRecDepth 100000 in
theorem c_X4_wedge (l : Launch) (D : va_G) (cs : Nat → ClassId) (A : Nat → Prop) (M : wM) (Z : Nat) (lab ad : Nat → Nat) (w : Nat → Int32) (E : Nat → Nat → Nat → Int32) (J : Nat → Nat → Nat) (nn nb nc np : Nat) (NA BA CA PA : Nat → Option Nat) (hC : CSx cs lab M Z ad w E J nn nb nc np NA BA CA PA) (nl nm nw : Nat) (hnl : w 6 = nI nl) (hl4 : nl ≤ 4) (hnm : w 8 = nI nm) (hm40 : nm ≤ 40) (hnw : w 9 = nI nw) (hw12 : nw ≤ 12) (hb9 : nb = nm + nw) (p1 x z y h0 : Int32) : Met l yX4_wedge (mw yX4_wedge cX4_wedge 6 (some .int)) { frames := 3, cells := 3, slots := 13, locals := 67 } (wrP D cs A M [.ref Z, .int p1, .int x, .int z, .int y, .int h0]) (va_Qi (fun r M' => ∃ lab' w' E' J' n' BA', CSx cs lab' M' Z ad w' E' J' nn n' nc np NA BA' CA PA ∧ (r, w', E', J', n') = xWedge w E J nw nb p1 x z y h0) (wrB D A) A) 3 13 A := by
  refine wr_met rfl (Nat.le_of_ble_eq_true rfl) ?_
  intro p e s m below meth c ls C hW hr hlk hini hl
  have C : kx D cs p m c cX4_wedge 6 s _ RX4 := C
  have hx := C.1.1
  have hb := C.1.2.1
  have hl : lv_has ls 6 [(0, .ref Z), (1, .int p1), (2, .int x), (3, .int z), (4, .int y), (5, .int h0)] := hl
  refine lv_aload_n hx hb dX4_wedge_0 rfl (lv_at hl 0 rfl) ?_
  refine lv_iload_n hx hb dX4_wedge_1 rfl (lv_at hl 1 rfl) ?_
  refine ro_goI (ro_V (As := [.int p1]) (rest := []) C hW.rd st_X4_56 (c_X4_isLine l D cs _ Z lab ad w E J nn nb nc np NA BA CA PA hC p1) (CSx.z hC) rfl rfl ⟨rfl, rfl, Nat.le_of_ble_eq_true rfl, Nat.le_of_ble_eq_true rfl⟩ rfl hl.1 rfl (Nat.le_of_ble_eq_true rfl) dX4_wedge_2 ⟨Nat.le_of_ble_eq_true rfl, Nat.le_of_ble_eq_true rfl⟩) (fun r_2 h_2 => ?_)
  refine lv_if_ne (tgt := 12) hx hb dX4_wedge_5 (by decide) (fun c_5 => ?_) (fun c_5 => ?_)
  · have c_5 : inB p1 0 (w 6 - 1) = true := bz1 h_2 c_5
    obtain ⟨j, hjj, rfl⟩ := inP_nat c_5 hnl (by omega)
    have hclj := nI_clamp (n := j) (by omega)
    refine lv_aload_n hx hb dX4_wedge_12 rfl (lv_at hl 0 rfl) ?_
    refine lv_iload_n hx hb dX4_wedge_13 rfl (lv_at hl 1 rfl) ?_
    refine lv_iload_n hx hb dX4_wedge_14 rfl (lv_at hl 2 rfl) ?_
    refine lv_iload hx hb dX4_wedge_15 (lv_at hl 4 rfl) ?_
    refine ro_goI (ro_V (As := [.int (nI j), .int x, .int y]) (rest := []) C hW.rd st_X4_66 (c_X4_isBarPlace l D cs _ Z lab ad w E J nn nb nc np NA BA CA PA hC j (by omega) x y) (CSx.z hC) rfl rfl ⟨rfl, rfl, Nat.le_of_ble_eq_true rfl, Nat.le_of_ble_eq_true rfl⟩ rfl hl.1 rfl (Nat.le_of_ble_eq_true rfl) dX4_wedge_17 ⟨Nat.le_of_ble_eq_true rfl, Nat.le_of_ble_eq_true rfl⟩) (fun r_17 h_17 => ?_)
    refine lv_if_eq (tgt := 50) hx hb dX4_wedge_20 (by decide) (fun c_20 => ?_) (fun c_20 => ?_)
    · have c_20 : ¬ (xBar E j x y = true) := bz0 h_17 c_20
      refine lv_sipush (v := (-9002)) hx hb dX4_wedge_50 (by decide) ?_
      refine W.widen (k := 3) (n := 13) (by decide) (by decide) ?_
      exact wr_iret C hW hr hlk (⟨_, _, _, _, _, _, hC, by rw [xWedge, if_pos c_5, hclj, if_neg (fun h => c_20 h.1)]⟩) dX4_wedge_53
    · have c_20 : xBar E j x y = true := bz1 h_17 c_20
      refine lv_aload_n hx hb dX4_wedge_23 rfl (lv_at hl 0 rfl) ?_
      refine lv_iload_n hx hb dX4_wedge_24 rfl (lv_at hl 1 rfl) ?_
      refine lv_iload_n hx hb dX4_wedge_25 rfl (lv_at hl 3 rfl) ?_
      refine lv_iload hx hb dX4_wedge_26 (lv_at hl 4 rfl) ?_
      refine ro_goI (ro_V (As := [.int (nI j), .int z, .int y]) (rest := []) C hW.rd st_X4_66 (c_X4_isBarPlace l D cs _ Z lab ad w E J nn nb nc np NA BA CA PA hC j (by omega) z y) (CSx.z hC) rfl rfl ⟨rfl, rfl, Nat.le_of_ble_eq_true rfl, Nat.le_of_ble_eq_true rfl⟩ rfl hl.1 rfl (Nat.le_of_ble_eq_true rfl) dX4_wedge_28 ⟨Nat.le_of_ble_eq_true rfl, Nat.le_of_ble_eq_true rfl⟩) (fun r_28 h_28 => ?_)
      refine lv_if_eq (tgt := 50) hx hb dX4_wedge_31 (by decide) (fun c_31 => ?_) (fun c_31 => ?_)
      · have c_31 : ¬ (xBar E j z y = true) := bz0 h_28 c_31
        refine lv_sipush (v := (-9002)) hx hb dX4_wedge_50 (by decide) ?_
        refine W.widen (k := 3) (n := 13) (by decide) (by decide) ?_
        exact wr_iret C hW hr hlk (⟨_, _, _, _, _, _, hC, by rw [xWedge, if_pos c_5, hclj, if_neg (fun h => c_31 h.2.1)]⟩) dX4_wedge_53
      · have c_31 : xBar E j z y = true := bz1 h_28 c_31
        refine lv_iload_n hx hb dX4_wedge_34 rfl (lv_at hl 2 rfl) ?_
        refine lv_iload_n hx hb dX4_wedge_35 rfl (lv_at hl 3 rfl) ?_
        refine lv_icmp_eq (tgt := 50) hx hb dX4_wedge_36 (by decide) (fun c_36 => ?_) (fun c_36 => ?_)
        · refine lv_sipush (v := (-9002)) hx hb dX4_wedge_50 (by decide) ?_
          refine W.widen (k := 3) (n := 13) (by decide) (by decide) ?_
          exact wr_iret C hW hr hlk (⟨_, _, _, _, _, _, hC, by rw [xWedge, if_pos c_5, hclj, if_neg (fun h => h.2.2.1 c_36)]⟩) dX4_wedge_53
        · refine lv_iconst (v := 1) hx hb dX4_wedge_39 (by decide) ?_
          refine lv_iload hx hb dX4_wedge_40 (lv_at hl 5 rfl) ?_
          refine lv_bipush (v := 40) hx hb dX4_wedge_42 (by decide) ?_
          refine ro_goI (ro_S (As := [.int 1, .int h0, .int 40]) (rest := []) C hW.rd st_X4_48 (c_X4_isFrom l D cs _ 1 h0 40) ⟨rfl, rfl, Nat.le_of_ble_eq_true rfl, Nat.le_of_ble_eq_true rfl⟩ rfl hl.1 rfl (Nat.le_of_ble_eq_true rfl) dX4_wedge_44 ⟨Nat.le_of_ble_eq_true rfl, Nat.le_of_ble_eq_true rfl⟩) (fun r_44 h_44 => ?_)
          refine lv_if_ne (tgt := 54) hx hb dX4_wedge_47 (by decide) (fun c_47 => ?_) (fun c_47 => ?_)
          · have c_47 : inB h0 1 40 = true := bz1 h_44 c_47
            refine lv_aload_n hx hb dX4_wedge_54 rfl (lv_at hl 0 rfl) ?_
            refine gf_X4_72 C hW.rd (CSx.z hC) rfl dX4_wedge_55 ?_
            refine top_eq (y := nI nw) hnw ?_
            refine lv_bipush (v := 12) hx hb dX4_wedge_58 (by decide) ?_
            refine lv_icmp_lt (tgt := 67) hx hb dX4_wedge_60 (by decide) (fun c_60 => ?_) (fun c_60 => ?_)
            · have c_60 := clt_t (a := nw) (b := 12) c_60 (by omega) (by omega)
              refine lv_aload_n hx hb dX4_wedge_67 rfl (lv_at hl 0 rfl) ?_
              refine gf_X4_21 C hW.rd (CSx.z hC) rfl dX4_wedge_68 ?_
              refine lv_aload_n hx hb dX4_wedge_71 rfl (lv_at hl 0 rfl) ?_
              refine gf_X4_69 C hW.rd (CSx.z hC) rfl dX4_wedge_72 ?_
              refine top_eq (y := nI nm) hnm ?_
              refine lv_aload_n hx hb dX4_wedge_75 rfl (lv_at hl 0 rfl) ?_
              refine gf_X4_72 C hW.rd (CSx.z hC) rfl dX4_wedge_76 ?_
              refine top_eq (y := nI nw) hnw ?_
              refine lv_iadd hx hb dX4_wedge_79 ?_
              refine top_eq (y := nI (nm + nw)) (tn_add rfl rfl) ?_
              refine lv_iload_n hx hb dX4_wedge_80 rfl (lv_at hl 1 rfl) ?_
              refine lv_iload_n hx hb dX4_wedge_81 rfl (lv_at hl 2 rfl) ?_
              refine lv_iload_n hx hb dX4_wedge_82 rfl (lv_at hl 3 rfl) ?_
              refine lv_iload hx hb dX4_wedge_83 (lv_at hl 4 rfl) ?_
              refine lv_iload hx hb dX4_wedge_85 (lv_at hl 5 rfl) ?_
              refine wr_goR hW (wr_S (As := [.int (nI j), .int x, .int z, .int y, .int h0]) (rest := [.int (nI (nm + nw)), .ref (ad 2)]) C hW st_X4_79 (c_X1_triangle l D cs A _ (nI j) x z y h0) ⟨rfl, rfl, Nat.le_of_ble_eq_true rfl, Nat.le_of_ble_eq_true rfl⟩ rfl hl.1 rfl (Nat.le_of_ble_eq_true rfl) dX4_wedge_87 ⟨Nat.le_of_ble_eq_true rfl, Nat.le_of_ble_eq_true rfl⟩) (fun r_87 M_87 H locs h_87 hW => ?_)
              obtain ⟨lab2, hl2, hm2, hfg, hrn⟩ := nF_more (lab := lab) (k := 10 + 6 * nb) h_87
              have hC := CSx.more (CSx.relab hC hl2) hm2
              obtain ⟨fxq, fyq, hq1, hq2, hq3, hq4, hq5, hq6⟩ := hfg
              refine w_aastN (k := (nm + nw)) C hW 4 1 (CSx.ba hC) rfl hq1 rfl (by omega) (by decide) rfl dX4_wedge_90 (fun H locs hW => ?_)
              obtain ⟨M, hC, hq, hW⟩ : ∃ (M : wM), CSx cs lab2 M Z ad w E J nn nb nc np NA (va_up BA (nm + nw) (some r_87)) CA PA ∧ figAt cs lab2 M r_87 (10 + 6 * nb) 3 (frF (nI j) (trX x z) (trY y h0) 2) (trX x z) (trY y h0) ∧ wd D A M s.heap H locs := ⟨_, CSx.setBA hC _ (fun i hi => va_up_ne _ _ (by omega)), ⟨fxq, fyq, up_o (CSx.ba hC) hq1 k_fr, up_o (CSx.ba hC) hq2 k_ar, up_o (CSx.ba hC) hq3 k_ar, hq4, hq5, hq6⟩, hW⟩
              refine lv_aload_n hx hb dX4_wedge_91 rfl (lv_at hl 0 rfl) ?_
              refine lv_dup hx hb dX4_wedge_92 rfl ?_
              refine gf_X4_72 C hW.rd (CSx.z hC) rfl dX4_wedge_93 ?_
              refine top_eq (y := nI nw) hnw ?_
              refine lv_iconst (v := 1) hx hb dX4_wedge_96 (by decide) ?_
              refine lv_iadd hx hb dX4_wedge_97 ?_
              refine top_eq (y := nI (nw + 1)) (tn_add rfl rfl) ?_
              refine lv_dup_x1 hx hb dX4_wedge_98 rfl rfl ?_
              refine pf_X4_72 (fs2 := [.ref (ad 0), .ref (ad 1), .ref (ad 2), .ref (ad 3), .ref (ad 4), .ref (ad 5), .int ((va_up w 9 (nI (nw + 1))) 6), .int ((va_up w 9 (nI (nw + 1))) 7), .int ((va_up w 9 (nI (nw + 1))) 8), .int ((va_up w 9 (nI (nw + 1))) 9), .int ((va_up w 9 (nI (nw + 1))) 10), .int ((va_up w 9 (nI (nw + 1))) 11)]) C hW (CSx.z hC) (Nat.le_of_ble_eq_true rfl) rfl dX4_wedge_99 (fun H locs hW => ?_)
              obtain ⟨M, w_1, ew_1, hC, hq, hW⟩ : ∃ (M : wM) (w9 : Nat → Int32), w9 = va_up w 9 (nI (nw + 1)) ∧ CSx cs lab2 M Z ad w9 E J nn nb nc np NA (va_up BA (nm + nw) (some r_87)) CA PA ∧ figAt cs lab2 M r_87 (10 + 6 * nb) 3 (frF (nI j) (trX x z) (trY y h0) 2) (trX x z) (trY y h0) ∧ wd D A M s.heap H locs := ⟨_, _, rfl, CSx.setZ hC _, hq.mv (fun _ _ _ _ q => up_o (CSx.z hC) q k_fx) (fun _ _ _ q _ => up_o (CSx.z hC) q k_ax), hW⟩
              refine W.widen (k := 3) (n := 13) (by decide) (by decide) ?_
              exact wr_iret C hW hr hlk (⟨_, _, _, _, _, _, CSx.addBar hC hq (by decide) (by rw [hb9]; exact va_up_self _ _ _), by rw [xWedge, if_pos c_5, hclj, if_pos ⟨c_20, c_31, c_36, c_47⟩, if_pos c_60]; subst ew_1; rfl⟩) dX4_wedge_102
            · have c_60 := clt_f (a := nw) (b := 12) c_60 (by omega) (by omega)
              refine lv_sipush (v := (-9004)) hx hb dX4_wedge_63 (by decide) ?_
              refine W.widen (k := 3) (n := 13) (by decide) (by decide) ?_
              exact wr_iret C hW hr hlk (⟨_, _, _, _, _, _, hC, by rw [xWedge, if_pos c_5, hclj, if_pos ⟨c_20, c_31, c_36, c_47⟩, if_neg (by omega)]⟩) dX4_wedge_66
          · have c_47 : ¬ (inB h0 1 40 = true) := bz0 h_44 c_47
            refine lv_sipush (v := (-9002)) hx hb dX4_wedge_50 (by decide) ?_
            refine W.widen (k := 3) (n := 13) (by decide) (by decide) ?_
            exact wr_iret C hW hr hlk (⟨_, _, _, _, _, _, hC, by rw [xWedge, if_pos c_5, hclj, if_neg (fun h => c_47 h.2.2.2)]⟩) dX4_wedge_53
  · have c_5 : ¬ (inB p1 0 (w 6 - 1) = true) := bz0 h_2 c_5
    refine lv_sipush (v := (-9001)) hx hb dX4_wedge_8 (by decide) ?_
    refine W.widen (k := 3) (n := 13) (by decide) (by decide) ?_
    exact wr_iret C hW hr hlk (⟨_, _, _, _, _, _, hC, by rw [xWedge, if_neg c_5]⟩) dX4_wedge_11


section ADD2
variable {cs : Nat → ClassId} {lab : Nat → Nat} {M : wM} {Z : Nat} {ad : Nat → Nat} {w : Nat → Int32} {E : Nat → Nat → Nat → Int32} {J : Nat → Nat → Nat} {nn nb nc np : Nat} {NA BA CA PA : Nat → Option Nat}
def xAddC (E : Nat → Nat → Nat → Int32) (nc : Nat) (c : Nat → Int32) : Nat → Nat → Nat → Int32 := va_up E 4 (va_up (E 4) nc c)
def xAddCJ (J : Nat → Nat → Nat) (nc i1 i2 : Nat) : Nat → Nat → Nat := va_up (va_up J 1 (va_up (J 1) nc i1)) 2 (va_up (J 2) nc i2)
def xAddP (E : Nat → Nat → Nat → Int32) (np : Nat) (q f gx gy : Nat → Int32) : Nat → Nat → Nat → Int32 := va_up (va_up (va_up (va_up E 5 (va_up (E 5) np q)) 6 (va_up (E 6) np f)) 7 (va_up (E 7) np gx)) 8 (va_up (E 8) np gy)
def xAddPJ (J : Nat → Nat → Nat) (np j : Nat) : Nat → Nat → Nat := va_up J 3 (va_up (J 3) np j)
theorem xAddC_o (E : Nat → Nat → Nat → Int32) (nc : Nat) (c : Nat → Int32) {k : Nat} (h : k ≠ 4) : xAddC E nc c k = E k := va_up_ne _ _ h
theorem xAddC_4 (E : Nat → Nat → Nat → Int32) (nc : Nat) (c : Nat → Int32) : xAddC E nc c 4 = va_up (E 4) nc c := va_up_self _ _ _
theorem xAddCJ_1 (J : Nat → Nat → Nat) (nc i1 i2 : Nat) : xAddCJ J nc i1 i2 1 = va_up (J 1) nc i1 := by unfold xAddCJ; rw [va_up_ne _ _ (by decide), va_up_self]
theorem xAddCJ_2 (J : Nat → Nat → Nat) (nc i1 i2 : Nat) : xAddCJ J nc i1 i2 2 = va_up (J 2) nc i2 := va_up_self _ _ _
theorem xAddCJ_o (J : Nat → Nat → Nat) (nc i1 i2 : Nat) {k : Nat} (h : k ≠ 1) (h2 : k ≠ 2) : xAddCJ J nc i1 i2 k = J k := by unfold xAddCJ; rw [va_up_ne _ _ h2, va_up_ne _ _ h]
theorem xAddP_o (E : Nat → Nat → Nat → Int32) (np : Nat) (q f gx gy : Nat → Int32) {k : Nat} (h5 : k ≠ 5) (h6 : k ≠ 6) (h7 : k ≠ 7) (h8 : k ≠ 8) : xAddP E np q f gx gy k = E k := by unfold xAddP; rw [va_up_ne _ _ h8, va_up_ne _ _ h7, va_up_ne _ _ h6, va_up_ne _ _ h5]
theorem xAddP_5 (E : Nat → Nat → Nat → Int32) (np : Nat) (q f gx gy : Nat → Int32) : xAddP E np q f gx gy 5 = va_up (E 5) np q := by unfold xAddP; rw [va_up_ne _ _ (by decide), va_up_ne _ _ (by decide), va_up_ne _ _ (by decide), va_up_self]
theorem xAddP_6 (E : Nat → Nat → Nat → Int32) (np : Nat) (q f gx gy : Nat → Int32) : xAddP E np q f gx gy 6 = va_up (E 6) np f := by unfold xAddP; rw [va_up_ne _ _ (by decide), va_up_ne _ _ (by decide), va_up_self]
theorem xAddP_7 (E : Nat → Nat → Nat → Int32) (np : Nat) (q f gx gy : Nat → Int32) : xAddP E np q f gx gy 7 = va_up (E 7) np gx := by unfold xAddP; rw [va_up_ne _ _ (by decide), va_up_self]
theorem xAddP_8 (E : Nat → Nat → Nat → Int32) (np : Nat) (q f gx gy : Nat → Int32) : xAddP E np q f gx gy 8 = va_up (E 8) np gy := by unfold xAddP; rw [va_up_self]
theorem xAddPJ_3 (J : Nat → Nat → Nat) (np j : Nat) : xAddPJ J np j 3 = va_up (J 3) np j := va_up_self _ _ _
theorem xAddPJ_o (J : Nat → Nat → Nat) (np j : Nat) {k : Nat} (h : k ≠ 3) : xAddPJ J np j k = J k := va_up_ne _ _ h
theorem CSx.addCurve (h : CSx cs lab M Z ad w E J nn nb nc np NA BA CA PA) {q a1 a2 i1 i2 : Nat} {c : Nat → Int32} (hq : M q = some (curC c a1 a2)) (h1 : M a1 = some (noteC (E 0 i1))) (h2 : M a2 = some (noteC (E 0 i2))) (l1 : i1 < nn) (l2 : i2 < nn) (hN : CA nc = some q) : CSx cs lab M Z ad w (xAddC E nc c) (xAddCJ J nc i1 i2) nn nb (nc + 1) np NA BA CA PA := by
  have o : ∀ k, k ≠ 4 → xAddC E nc c k = E k := fun k hk => xAddC_o E nc c hk
  have h3 : CSx cs lab M Z ad w (xAddC E nc c) (xAddCJ J nc i1 i2) nn nb nc np NA BA CA PA := h.mv h.z ⟨by rw [o 10 (by decide)]; exact h.wd, h.2.1.2⟩ h.na h.ba h.ca h.pa (by rw [o 9 (by decide)]; exact h.tr) (fun _ _ q => q) (fun _ _ _ _ q => q) (fun _ _ _ _ _ _ _ q => q) (fun i hi => ⟨rfl, by rw [o 0 (by decide)]⟩) (fun i hi => ⟨rfl, by rw [o 1 (by decide)], by rw [o 2 (by decide)], by rw [o 3 (by decide)], by rw [xAddCJ_o _ _ _ _ (by decide) (by decide)]⟩) (fun i hi => ⟨rfl, by rw [xAddC_4, va_up_ne _ _ (by omega)], by rw [xAddCJ_1, va_up_ne _ _ (by omega)], by rw [xAddCJ_2, va_up_ne _ _ (by omega)]⟩) (fun i hi => ⟨by rw [xAddCJ_o _ _ _ _ (by decide) (by decide)], fun _ _ _ _ _ q1 q2 q3 _ q5 => ⟨q1, by rw [o 5 (by decide)]; exact q2, q3, by rw [o 6 (by decide), o 7 (by decide), o 8 (by decide)]; exact q5⟩⟩)
  refine ⟨h3.1, h3.2.1, h3.2.2.1, h3.2.2.2.1, h3.2.2.2.2.1, h3.2.2.2.2.2.1, h3.2.2.2.2.2.2.1, h3.2.2.2.2.2.2.2.1, h3.2.2.2.2.2.2.2.2.1, fun i hi => ?_, h3.2.2.2.2.2.2.2.2.2.2.1, fun i hi => ?_, fun i hi => ?_⟩
  · by_cases z : i = nc
    · subst z; exact ⟨q, a1, a2, hN, by rw [xAddC_4, va_up_self]; exact hq, by rw [xAddCJ_1, va_up_self, o 0 (by decide)]; exact h1, by rw [xAddCJ_2, va_up_self, o 0 (by decide)]; exact h2⟩
    · exact h3.cur i (by omega)
  · by_cases z : i = nc
    · subst z; rw [xAddCJ_1, xAddCJ_2, va_up_self, va_up_self]; exact ⟨l1, l2⟩
    · exact h3.ji i (by omega)
  · have := h3.jp i hi
    omega
theorem CSx.addPart (h : CSx cs lab M Z ad w E J nn nb nc np NA BA CA PA) {a c g a1 a2 j : Nat} {q f gx gy : Nat → Int32} (hm : M a = some (parC q c g)) (hl : lab a = np) (hc : M c = some (curC (E 4 j) a1 a2)) (hj : j < nc) (hf : figAt cs lab M g (13 + 6 * np) 4 f gx gy) (hN : PA np = some a) : CSx cs lab M Z ad w (xAddP E np q f gx gy) (xAddPJ J np j) nn nb nc (np + 1) NA BA CA PA := by
  have o : ∀ k, k ≠ 5 → k ≠ 6 → k ≠ 7 → k ≠ 8 → xAddP E np q f gx gy k = E k := fun k h5 h6 h7 h8 => xAddP_o E np q f gx gy h5 h6 h7 h8
  have h3 : CSx cs lab M Z ad w (xAddP E np q f gx gy) (xAddPJ J np j) nn nb nc np NA BA CA PA := h.mv h.z ⟨by rw [o 10 (by decide) (by decide) (by decide) (by decide)]; exact h.wd, h.2.1.2⟩ h.na h.ba h.ca h.pa (by rw [o 9 (by decide) (by decide) (by decide) (by decide)]; exact h.tr) (fun _ _ q => q) (fun _ _ _ _ q => q) (fun _ _ _ _ _ _ _ q => q) (fun i hi => ⟨rfl, by rw [o 0 (by decide) (by decide) (by decide) (by decide)]⟩) (fun i hi => ⟨rfl, by rw [o 1 (by decide) (by decide) (by decide) (by decide)], by rw [o 2 (by decide) (by decide) (by decide) (by decide)], by rw [o 3 (by decide) (by decide) (by decide) (by decide)], by rw [xAddPJ_o _ _ _ (by decide)]⟩) (fun i hi => ⟨rfl, by rw [o 4 (by decide) (by decide) (by decide) (by decide)], by rw [xAddPJ_o _ _ _ (by decide)], by rw [xAddPJ_o _ _ _ (by decide)]⟩) (fun i hi => ⟨by rw [xAddPJ_3, va_up_ne _ _ (by omega)], fun _ _ _ _ _ q1 q2 q3 _ q5 => ⟨q1, by rw [xAddP_5, va_up_ne _ _ (by omega)]; exact q2, q3, by rw [xAddP_6, xAddP_7, xAddP_8, va_up_ne _ _ (by omega), va_up_ne _ _ (by omega), va_up_ne _ _ (by omega)]; exact q5⟩⟩)
  refine ⟨h3.1, h3.2.1, h3.2.2.1, h3.2.2.2.1, h3.2.2.2.2.1, h3.2.2.2.2.2.1, h3.2.2.2.2.2.2.1, h3.2.2.2.2.2.2.2.1, h3.2.2.2.2.2.2.2.2.1, h3.2.2.2.2.2.2.2.2.2.1, fun i hi => ?_, h3.2.2.2.2.2.2.2.2.2.2.2.1, fun i hi => ?_⟩
  · by_cases z : i = np
    · subst z; exact ⟨a, c, g, a1, a2, hN, by rw [xAddP_5, va_up_self]; exact hm, hl, by rw [o 4 (by decide) (by decide) (by decide) (by decide), xAddPJ_3, va_up_self]; exact hc, by rw [xAddP_6, xAddP_7, xAddP_8, va_up_self, va_up_self, va_up_self]; exact hf⟩
    · exact h3.part i (by omega)
  · by_cases z : i = np
    · subst z; rw [xAddPJ_3, va_up_self]; exact hj
    · exact h3.jp i (by omega)
/-- a new part, its labels -/
theorem nP_more {M0 : wM} {r g q1 q2 k i ca : Nat} {e0 : va_E} {p f gx gy : Nat → Int32} (hr : M r = none) (k0 : va_up M r (some e0) g = none) (k1 : va_up M r (some e0) q1 = none) (k2 : va_up M r (some e0) q2 = none) (n1 : g ≠ q1) (n2 : g ≠ q2) (n3 : q1 ≠ q2) (m1 : r ≠ g) (m2 : r ≠ q1) (m3 : r ≠ q2) (hM : M0 = sfg cs (va_up M r (some (parC p ca g))) g q1 q2 4 f gx gy) : ∃ lab2 : Nat → Nat, (∀ a e, M a = some e → lab2 a = lab a) ∧ (∀ a e, M a = some e → M0 a = some e) ∧ M0 r = some (parC p ca g) ∧ lab2 r = i ∧ figAt cs lab2 M0 g k 4 f gx gy := by
  subst hM
  rw [va_up_ne _ _ m1.symm] at k0
  rw [va_up_ne _ _ m2.symm] at k1
  rw [va_up_ne _ _ m3.symm] at k2
  refine ⟨va_up (va_up (va_up (va_up lab r i) g k) q1 (k + 1)) q2 (k + 2), fun a e ha => ?_, fun a e ha => ?_, ?_, ?_, ⟨q1, q2, sfg_b n1 n2 n3, sfg_x n1 n2 n3, sfg_y n1 n2 n3, ?_, ?_, ?_⟩⟩
  · rw [va_up_ne _ _ (ne_none ha k2), va_up_ne _ _ (ne_none ha k1), va_up_ne _ _ (ne_none ha k0), va_up_ne _ _ (ne_none ha hr)]
  · rw [sfg_o (ne_none ha k0) (ne_none ha k1) (ne_none ha k2), va_up_ne _ _ (ne_none ha hr)]; exact ha
  · rw [sfg_o m1 m2 m3, va_up_self]
  · rw [va_up_ne _ _ m3, va_up_ne _ _ m2, va_up_ne _ _ m1, va_up_self]
  · rw [va_up_ne _ _ n2, va_up_ne _ _ n1, va_up_self]
  · rw [va_up_ne _ _ n3, va_up_self]
  · rw [va_up_self]
end ADD2
/-- again, part after part -/
def agR (E : Nat → Nat → Nat → Int32) (J : Nat → Nat → Nat) (nb np : Nat) : Nat → (Nat → Nat → Nat → Int32) → Nat → Prop
  | 0, E2, n => E2 = E ∧ n = 0
  | k + 1, E2, n => ∃ E1 n1, agR E J nb np k E1 n1 ∧ chR E1 E2 J nb np k ∧ n = n1 + (if E2 5 k 8 = E1 5 k 8 then 0 else 1)
theorem agR_le {E E2 : Nat → Nat → Nat → Int32} {J : Nat → Nat → Nat} {nb np k n : Nat} (h : agR E J nb np k E2 n) : n ≤ k := by
  induction k generalizing E2 n with
  | zero => rw [h.2]; exact Nat.le_refl _
  | succ k ih =>
    obtain ⟨E1, n1, h1, -, h3⟩ := h
    have := ih h1
    rw [h3]
    split <;> omega
/-- the choosing of parts from a to k -/
def chS (E : Nat → Nat → Nat → Int32) (J : Nat → Nat → Nat) (nb np a : Nat) : Nat → (Nat → Nat → Nat → Int32) → Prop
  | 0, E2 => E2 = E
  | k + 1, E2 => ∃ E1, chS E J nb np a k E1 ∧ chR E1 E2 J nb np (a + k)
set_option maxHeartbeats 4000000 in
set_option maxRecDepth 100000 in
theorem c_X4_again (l : Launch) (D : va_G) (cs : Nat → ClassId) (A : Nat → Prop) (M : wM) (Z : Nat) (lab ad : Nat → Nat) (w : Nat → Int32) (E : Nat → Nat → Nat → Int32) (J : Nat → Nat → Nat) (nn nb nc np : Nat) (NA BA CA PA : Nat → Option Nat) (hC : CSx cs lab M Z ad w E J nn nb nc np NA BA CA PA) (nm nw : Nat) (hnm : w 8 = nI nm) (hnw : w 9 = nI nw) (hb9 : nb = nm + nw) (hb52 : nb ≤ 52) (hnp : w 11 = nI np) (hp80 : np ≤ 80)  : Met l yX4_again (mw yX4_again cX4_again 4 (some .int)) { frames := 5, cells := 0, slots := 0, locals := 121 } (wrP D cs A M [.ref Z]) (va_Qi (fun r M' => ∃ E' n, CSx cs lab M' Z ad w E' J nn nb nc np NA BA CA PA ∧ agR E J nb np np E' n ∧ r = nI n) (wrB D A) A) 0 0 A := by
  refine wr_met rfl (Nat.le_of_ble_eq_true rfl) ?_
  intro p e s m below meth c ls C hW hr hlk hini hl
  have C : kx D cs p m c cX4_again 4 s _ RX4 := C
  have hx := C.1.1
  have hb := C.1.2.1
  have hl : lv_has ls 4 [(0, .ref Z)] := hl
  refine lv_iconst (v := 0) hx hb dX4_again_0 (by decide) ?_
  refine lv_istore_n (lv' := [(1, .int 0), (0, .ref Z)]) hx hb dX4_again_1 rfl hl (by decide) rfl (fun ls hl => ?_)
  refine lv_iconst (v := 0) hx hb dX4_again_2 (by decide) ?_
  refine lv_istore_n (lv' := [(2, .int 0), (1, .int 0), (0, .ref Z)]) hx hb dX4_again_3 rfl hl (by decide) rfl (fun ls hl => ?_)
  refine W.loopW (σ := Nat × Nat × (Nat → Nat → Nat → Int32) × Heap × List Loc × wM × Array Slot) (fun ⟨i, n, E1, H, locs, M, ls⟩ => F0 m 4 ls []) (fun ⟨i, n, E1, H, locs, M, ls⟩ => H) (fun ⟨i, n, E1, H, locs, M, ls⟩ => locs) (fun ⟨i, n, E1, H, locs, M, ls⟩ => (i ≤ np) ∧ (agR E J nb np i E1 n) ∧ (CSx cs lab M Z ad w E1 J nn nb nc np NA BA CA PA) ∧ wd D A M s.heap H locs ∧ lv_has ls 4 [(2, .int (nI i)), (1, .int (nI n)), (0, .ref Z)]) (fun ⟨i, n, E1, H, locs, M, ls⟩ => np - i) ?_ (0, 0, E, _, _, _, _) ⟨by omega, ⟨rfl, rfl⟩, hC, hW, lv_sub hl [0, 1, 2] rfl⟩ rfl rfl rfl
  intro ⟨i, n, E1, H, locs, M, ls⟩ ⟨hi, hag, hC, hW, hl⟩ ih_4
  show W _ _ _ _ _ _ _ _ _ _ H locs _ _ _ (F0 m 4 ls [])
  have hl : lv_has ls 4 [(2, .int (nI i)), (1, .int (nI n)), (0, .ref Z)] := hl
  have hle := agR_le hag
  refine lv_iload_n hx hb dX4_again_4 rfl (lv_at hl 0 rfl) ?_
  refine lv_aload_n hx hb dX4_again_5 rfl (lv_at hl 2 rfl) ?_
  refine gf_X4_86 C hW.rd (CSx.z hC) rfl dX4_again_6 ?_
  refine top_eq (y := nI np) hnp ?_
  refine lv_icmp_ge (tgt := 54) hx hb dX4_again_9 (by decide) (fun c_9 => ?_) (fun c_9 => ?_)
  · have c_9 := cle_t (a := np) (b := i) c_9 (by omega) (by omega)
    refine lv_iload_n hx hb dX4_again_54 rfl (lv_at hl 1 rfl) ?_
    exact wr_iret C hW hr hlk (⟨_, n, hC, by have e : i = np := (by omega); rw [e] at hag; exact hag, rfl⟩) dX4_again_55
  · have c_9 := cle_f (a := np) (b := i) c_9 (by omega) (by omega)
    refine lv_aload_n hx hb dX4_again_12 rfl (lv_at hl 2 rfl) ?_
    refine gf_X4_33 C hW.rd (CSx.z hC) rfl dX4_again_13 ?_
    refine lv_iload_n hx hb dX4_again_16 rfl (lv_at hl 0 rfl) ?_
    obtain ⟨a_17, c_p17, h_p17, b1_p17, b2_p17, ga_17, gp_17, gl_17, gc_17, gh_17⟩ := CSx.part hC i (by omega)
    obtain ⟨fx_h17, fy_h17, h1_h17, h2_h17, h3_h17, h4_h17, h5_h17, h6_h17⟩ := gh_17
    refine r_aaldN (k := i) C hW.rd 6 (CSx.pa hC) rfl (by omega) (by decide) rfl ga_17 dX4_again_17 ?_
    refine gf_X4_89 C hW.rd gp_17 rfl dX4_again_18 ?_
    refine lv_istore_n (lv' := [(3, .int (E1 5 i 8)), (2, .int (nI i)), (1, .int (nI n)), (0, .ref Z)]) hx hb dX4_again_21 rfl hl (by decide) rfl (fun ls hl => ?_)
    refine lv_aload_n hx hb dX4_again_22 rfl (lv_at hl 3 rfl) ?_
    refine lv_aload_n hx hb dX4_again_23 rfl (lv_at hl 3 rfl) ?_
    refine gf_X4_33 C hW.rd (CSx.z hC) rfl dX4_again_24 ?_
    refine lv_iload_n hx hb dX4_again_27 rfl (lv_at hl 1 rfl) ?_
    obtain ⟨a_28, c_p28, h_p28, b1_p28, b2_p28, ga_28, gp_28, gl_28, gc_28, gh_28⟩ := CSx.part hC i (by omega)
    obtain ⟨fx_h28, fy_h28, h1_h28, h2_h28, h3_h28, h4_h28, h5_h28, h6_h28⟩ := gh_28
    refine r_aaldN (k := i) C hW.rd 6 (CSx.pa hC) rfl (by omega) (by decide) rfl ga_28 dX4_again_28 ?_
    refine wr_goV hW (wr_V (As := [.ref a_28]) (rest := []) C hW st_X4_92 (c_X4_choose l D cs A _ Z lab ad w E1 J nn nb nc np NA BA CA PA hC nm nw hnm hnw (by omega) (by omega) hnp (by omega) i (by omega) a_28 ga_28) (CSx.z hC) rfl rfl ⟨rfl, rfl, Nat.le_of_ble_eq_true rfl, Nat.le_of_ble_eq_true rfl⟩ rfl hl.1 rfl (Nat.le_of_ble_eq_true rfl) dX4_again_29 ⟨Nat.le_of_ble_eq_true rfl, Nat.le_of_ble_eq_true rfl⟩) (fun M_29 H locs h_29 hW => ?_)
    obtain ⟨E2, hC, hch⟩ := h_29
    refine lv_aload_n hx hb dX4_again_32 rfl (lv_at hl 3 rfl) ?_
    refine gf_X4_33 C hW.rd (CSx.z hC) rfl dX4_again_33 ?_
    refine lv_iload_n hx hb dX4_again_36 rfl (lv_at hl 1 rfl) ?_
    obtain ⟨a_37, c_p37, h_p37, b1_p37, b2_p37, ga_37, gp_37, gl_37, gc_37, gh_37⟩ := CSx.part hC i (by omega)
    obtain ⟨fx_h37, fy_h37, h1_h37, h2_h37, h3_h37, h4_h37, h5_h37, h6_h37⟩ := gh_37
    refine r_aaldN (k := i) C hW.rd 6 (CSx.pa hC) rfl (by omega) (by decide) rfl ga_37 dX4_again_37 ?_
    refine gf_X4_89 C hW.rd gp_37 rfl dX4_again_38 ?_
    refine lv_iload_n hx hb dX4_again_41 rfl (lv_at hl 0 rfl) ?_
    refine lv_icmp_eq (tgt := 48) hx hb dX4_again_42 (by decide) (fun c_42 => ?_) (fun c_42 => ?_)
    · refine lv_iinc (v := nI (i + 1)) (lv' := [(2, .int (nI (i + 1))), (3, .int (E1 5 i 8)), (1, .int (nI n)), (0, .ref Z)]) hx hb dX4_again_48 hl (k := 1) rfl (by exact tn_add rfl rfl) (by decide) rfl (fun ls hl => ?_)
      refine lv_goto (tgt := 4) hx hb dX4_again_51 (by decide) ?_
      exact ih_4 ((i + 1), n, E2, _, _, _, _) ⟨by omega, ⟨_, _, hag, hch, by rw [if_pos c_42]; rfl⟩, hC, hW, lv_sub hl [0, 2, 3] rfl⟩ (by show np - (i + 1) < np - i; omega)
    · refine lv_iinc (v := nI (n + 1)) (lv' := [(1, .int (nI (n + 1))), (3, .int (E1 5 i 8)), (2, .int (nI i)), (0, .ref Z)]) hx hb dX4_again_45 hl (k := 2) rfl (by exact tn_add rfl rfl) (by decide) rfl (fun ls hl => ?_)
      refine lv_iinc (v := nI (i + 1)) (lv' := [(2, .int (nI (i + 1))), (1, .int (nI (n + 1))), (3, .int (E1 5 i 8)), (0, .ref Z)]) hx hb dX4_again_48 hl (k := 2) rfl (by exact tn_add rfl rfl) (by decide) rfl (fun ls hl => ?_)
      refine lv_goto (tgt := 4) hx hb dX4_again_51 (by decide) ?_
      exact ih_4 ((i + 1), (n + 1), E2, _, _, _, _) ⟨by omega, ⟨_, _, hag, hch, by rw [if_neg c_42]⟩, hC, hW, lv_sub hl [0, 1, 3] rfl⟩ (by show np - (i + 1) < np - i; omega)

set_option maxHeartbeats 4000000 in
set_option maxRecDepth 100000 in
theorem c_X4_addPart (l : Launch) (D : va_G) (cs : Nat → ClassId) (A : Nat → Prop) (M : wM) (Z : Nat) (lab ad : Nat → Nat) (w : Nat → Int32) (E : Nat → Nat → Nat → Int32) (J : Nat → Nat → Nat) (nn nb nc np : Nat) (NA BA CA PA : Nat → Option Nat) (hC : CSx cs lab M Z ad w E J nn nb nc np NA BA CA PA) (hnp : w 11 = nI np) (hp8 : np < 80) (a c0 g0 a1 a2 j : Nat) (q f gx gy : Nat → Int32) (hm : M a = some (parC q c0 g0)) (hla : lab a = np) (hcu : M c0 = some (curC (E 4 j) a1 a2)) (hj : j < nc) (hfg : figAt cs lab M g0 (13 + 6 * np) 4 f gx gy)  : Met l yX4_addPart (mw yX4_addPart cX4_addPart 2 none) { frames := 0, cells := 0, slots := 0, locals := 0 } (wrP D cs A M [.ref Z, .ref a]) (va_Qv (fun M' => ∃ PA', CSx cs lab M' Z ad (va_up w 11 (nI (np + 1))) (xAddP E np q f gx gy) (xAddPJ J np j) nn nb nc (np + 1) NA BA CA PA') (wrB D A) A) 0 0 A := by
  refine wr_met rfl (Nat.le_of_ble_eq_true rfl) ?_
  intro p e s m below meth c ls C hW hr hlk hini hl
  have C : kx D cs p m c cX4_addPart 2 s _ RX4 := C
  have hx := C.1.1
  have hb := C.1.2.1
  have hl : lv_has ls 2 [(0, .ref Z), (1, .ref a)] := hl
  refine lv_aload_n hx hb dX4_addPart_0 rfl (lv_at hl 0 rfl) ?_
  refine gf_X4_86 C hW.rd (CSx.z hC) rfl dX4_addPart_1 ?_
  refine top_eq (y := nI np) hnp ?_
  refine lv_bipush (v := 80) hx hb dX4_addPart_4 (by decide) ?_
  refine lv_icmp_ge (tgt := 26) hx hb dX4_addPart_6 (by decide) (fun c_6 => ?_) (fun c_6 => ?_)
  · exact absurd (cle_t (a := 80) (b := np) c_6 (by omega) (by omega)) (by omega)
  · have c_6 := cle_f (a := 80) (b := np) c_6 (by omega) (by omega)
    refine lv_aload_n hx hb dX4_addPart_9 rfl (lv_at hl 0 rfl) ?_
    refine gf_X4_33 C hW.rd (CSx.z hC) rfl dX4_addPart_10 ?_
    refine lv_aload_n hx hb dX4_addPart_13 rfl (lv_at hl 0 rfl) ?_
    refine lv_dup hx hb dX4_addPart_14 rfl ?_
    refine gf_X4_86 C hW.rd (CSx.z hC) rfl dX4_addPart_15 ?_
    refine top_eq (y := nI np) hnp ?_
    refine lv_dup_x1 hx hb dX4_addPart_18 rfl rfl ?_
    refine lv_iconst (v := 1) hx hb dX4_addPart_19 (by decide) ?_
    refine lv_iadd hx hb dX4_addPart_20 ?_
    refine top_eq (y := nI (np + 1)) (tn_add rfl rfl) ?_
    refine pf_X4_86 (fs2 := [.ref (ad 0), .ref (ad 1), .ref (ad 2), .ref (ad 3), .ref (ad 4), .ref (ad 5), .int ((va_up w 11 (nI (np + 1))) 6), .int ((va_up w 11 (nI (np + 1))) 7), .int ((va_up w 11 (nI (np + 1))) 8), .int ((va_up w 11 (nI (np + 1))) 9), .int ((va_up w 11 (nI (np + 1))) 10), .int ((va_up w 11 (nI (np + 1))) 11)]) C hW (CSx.z hC) (Nat.le_of_ble_eq_true rfl) rfl dX4_addPart_21 (fun H locs hW => ?_)
    obtain ⟨M, w_1, ew_1, hC, hm, hcu, hfg, hW⟩ : ∃ (M : wM) (w9 : Nat → Int32), w9 = va_up w 11 (nI (np + 1)) ∧ CSx cs lab M Z ad w9 E J nn nb nc np NA BA CA PA ∧ M a = some (parC q c0 g0) ∧ M c0 = some (curC (E 4 j) a1 a2) ∧ figAt cs lab M g0 (13 + 6 * np) 4 f gx gy ∧ wd D A M s.heap H locs := ⟨_, _, rfl, CSx.setZ hC _, up_o (CSx.z hC) hm k_px, up_o (CSx.z hC) hcu k_kx, hfg.mv (fun _ _ _ _ q => up_o (CSx.z hC) q k_fx) (fun _ _ _ q _ => up_o (CSx.z hC) q k_ax), hW⟩
    refine lv_aload_n hx hb dX4_addPart_24 rfl (lv_at hl 1 rfl) ?_
    refine w_aastN (k := np) C hW 6 3 (CSx.pa hC) rfl hm rfl (by omega) (by decide) rfl dX4_addPart_25 (fun H locs hW => ?_)
    obtain ⟨M, hC, hm, hcu, hfg, hW⟩ : ∃ (M : wM), CSx cs lab M Z ad w_1 E J nn nb nc np NA BA CA (va_up PA np (some a)) ∧ M a = some (parC q c0 g0) ∧ M c0 = some (curC (E 4 j) a1 a2) ∧ figAt cs lab M g0 (13 + 6 * np) 4 f gx gy ∧ wd D A M s.heap H locs := ⟨_, CSx.setPA hC _ (fun i hi => va_up_ne _ _ (by omega)), up_o (CSx.pa hC) hm k_pr, up_o (CSx.pa hC) hcu k_kr, hfg.mv (fun _ _ _ _ q => up_o (CSx.pa hC) q k_fr) (fun _ _ _ q _ => up_o (CSx.pa hC) q k_ar), hW⟩
    exact wr_vret C hW hr hlk (⟨_, by rw [← ew_1]; exact CSx.addPart hC hm hla hcu hj hfg (va_up_self _ _ _)⟩) dX4_addPart_26

def xPq (E : Nat → Nat → Nat → Int32) (J : Nat → Nat → Nat) (j la : Nat) (k : Nat) : Nat → Int32 := if pcN E J j = 1 then pa9 (E 0 (J 1 j) 1) (cFx (E 4 j) (E 0 (J 1 j))) (cEh (E 4 j) (E 0 (J 1 j))) (cSx (E 4 j) (E 0 (J 2 j))) (cEh (E 4 j) (E 0 (J 2 j))) else if k = 0 then pa9 (E 0 (J 1 j) 1) (cFx (E 4 j) (E 0 (J 1 j))) (cEh (E 4 j) (E 0 (J 1 j))) (E 10 0 la) (cEh (E 4 j) (E 0 (J 1 j))) else pa9 (E 0 (J 2 j) 1) 0 (cEh (E 4 j) (E 0 (J 2 j))) (cSx (E 4 j) (E 0 (J 2 j))) (cEh (E 4 j) (E 0 (J 2 j)))
def xPl (E : Nat → Nat → Nat → Int32) (J : Nat → Nat → Nat) (j : Nat) (k : Nat) : Int32 := if k = 0 then E 0 (J 1 j) 1 else E 0 (J 2 j) 1
def xAp (E E0 : Nat → Nat → Nat → Int32) (J0 : Nat → Nat → Nat) (np j la k : Nat) : Nat → Nat → Nat → Int32 := xAddP E np (xPq E0 J0 j la k) (f0 (xPl E0 J0 j k)) (fun _ => 0) (fun _ => 0)
theorem pcN_1 {E : Nat → Nat → Nat → Int32} {J : Nat → Nat → Nat} {c : Nat} (h : cPc (E 0 (J 1 c)) (E 0 (J 2 c)) = 1) : pcN E J c = 1 := by
  unfold pcN
  unfold cPc at h
  split
  · rfl
  · rename_i q; rw [if_neg q] at h; exact absurd h (by decide)
theorem pcN_2 {E : Nat → Nat → Nat → Int32} {J : Nat → Nat → Nat} {c : Nat} (h : ¬ cPc (E 0 (J 1 c)) (E 0 (J 2 c)) = 1) : pcN E J c = 2 := by
  unfold pcN
  unfold cPc at h
  split
  · rename_i q; rw [if_pos q] at h; exact absurd rfl h
  · rfl
def xAddPs (E : Nat → Nat → Nat → Int32) (J : Nat → Nat → Nat) (np j la : Nat) : (Nat → Nat → Nat → Int32) × (Nat → Nat → Nat) := if pcN E J j = 1 then (xAp E E J np j la 0, xAddPJ J np j) else (xAp (xAp E E J np j la 0) E J (np + 1) j la 1, xAddPJ (xAddPJ J np j) (np + 1) j)
set_option maxHeartbeats 4000000 in
set_option maxRecDepth 100000 in
theorem c_X4_addParts (l : Launch) (D : va_G) (cs : Nat → ClassId) (A : Nat → Prop) (M : wM) (Z : Nat) (lab ad : Nat → Nat) (w : Nat → Int32) (E : Nat → Nat → Nat → Int32) (J : Nat → Nat → Nat) (nn nb nc np : Nat) (NA BA CA PA : Nat → Option Nat) (hC : CSx cs lab M Z ad w E J nn nb nc np NA BA CA PA) (hnp : w 11 = nI np) (hp8 : np + 2 ≤ 80) (j a : Nat) (hj : j < nc) (hCAj : CA j = some a) (la : Nat) (hla : E 0 (J 1 j) 1 = nI la) (hl4 : la < 4) : Met l yX4_addParts (mw yX4_addParts cX4_addParts 6 none) { frames := 4, cells := 8, slots := 50, locals := 88 } (wrP D cs A M [.ref Z, .ref a]) (va_Qv (fun M' => ∃ lab' PA', CSx cs lab' M' Z ad (va_up w 11 (nI (np + pcN E J j))) (xAddPs E J np j la).1 (xAddPs E J np j la).2 nn nb nc (np + pcN E J j) NA BA CA PA') (wrB D A) A) 8 50 A := by
  refine wr_met rfl (Nat.le_of_ble_eq_true rfl) ?_
  intro p e s m below meth c ls C hW hr hlk hini hl
  have C : kx D cs p m c cX4_addParts 6 s _ RX4 := C
  have hx := C.1.1
  have hb := C.1.2.1
  have hl : lv_has ls 6 [(0, .ref Z), (1, .ref a)] := hl
  obtain ⟨d_s, b1_s, b2_s, ga_s, gk_s, g1_s, g2_s⟩ := CSx.cur hC j (by omega)
  have e_s : a = d_s := Option.some.inj (hCAj.symm.trans ga_s)
  subst e_s
  refine lv_aload_n hx hb dX4_addParts_0 rfl (lv_at hl 1 rfl) ?_
  refine ro_goI (ro_V (As := []) (rest := []) C hW.rd st_X4_220 (c_X0_firstX l D cs _ a b1_s b2_s (E 4 j) (E 0 (J 1 j)) (E 0 (J 2 j)) gk_s g1_s g2_s) gk_s rfl rfl ⟨rfl, rfl, Nat.le_of_ble_eq_true rfl, Nat.le_of_ble_eq_true rfl⟩ rfl hl.1 rfl (Nat.le_of_ble_eq_true rfl) dX4_addParts_1 ⟨Nat.le_of_ble_eq_true rfl, Nat.le_of_ble_eq_true rfl⟩) (fun r_1 h_1 => ?_)
  refine lv_istore_n (lv' := [(2, .int r_1), (0, .ref Z), (1, .ref a)]) hx hb dX4_addParts_4 rfl hl (by decide) rfl (fun ls hl => ?_)
  refine lv_aload_n hx hb dX4_addParts_5 rfl (lv_at hl 2 rfl) ?_
  refine lv_aload_n hx hb dX4_addParts_6 rfl (lv_at hl 2 rfl) ?_
  refine gf_X4_99 C hW.rd gk_s rfl dX4_addParts_7 ?_
  refine ro_goI (ro_V (As := [.ref b1_s]) (rest := []) C hW.rd st_X4_223 (c_X0_endHeight l D cs _ a b1_s b2_s b1_s (E 4 j) (E 0 (J 1 j)) gk_s g1_s) gk_s rfl rfl ⟨rfl, rfl, Nat.le_of_ble_eq_true rfl, Nat.le_of_ble_eq_true rfl⟩ rfl hl.1 rfl (Nat.le_of_ble_eq_true rfl) dX4_addParts_10 ⟨Nat.le_of_ble_eq_true rfl, Nat.le_of_ble_eq_true rfl⟩) (fun r_10 h_10 => ?_)
  refine lv_istore_n (lv' := [(3, .int r_10), (2, .int r_1), (0, .ref Z), (1, .ref a)]) hx hb dX4_addParts_13 rfl hl (by decide) rfl (fun ls hl => ?_)
  refine lv_aload_n hx hb dX4_addParts_14 rfl (lv_at hl 3 rfl) ?_
  refine ro_goI (ro_V (As := []) (rest := []) C hW.rd st_X4_226 (c_X0_secondX l D cs _ a b1_s b2_s (E 4 j) (E 0 (J 1 j)) (E 0 (J 2 j)) gk_s g1_s g2_s) gk_s rfl rfl ⟨rfl, rfl, Nat.le_of_ble_eq_true rfl, Nat.le_of_ble_eq_true rfl⟩ rfl hl.1 rfl (Nat.le_of_ble_eq_true rfl) dX4_addParts_15 ⟨Nat.le_of_ble_eq_true rfl, Nat.le_of_ble_eq_true rfl⟩) (fun r_15 h_15 => ?_)
  refine lv_istore (lv' := [(4, .int r_15), (3, .int r_10), (2, .int r_1), (0, .ref Z), (1, .ref a)]) hx hb dX4_addParts_18 hl (by decide) rfl (fun ls hl => ?_)
  refine lv_aload_n hx hb dX4_addParts_20 rfl (lv_at hl 4 rfl) ?_
  refine lv_aload_n hx hb dX4_addParts_21 rfl (lv_at hl 4 rfl) ?_
  refine gf_X4_106 C hW.rd gk_s rfl dX4_addParts_22 ?_
  refine ro_goI (ro_V (As := [.ref b2_s]) (rest := []) C hW.rd st_X4_223 (c_X0_endHeight l D cs _ a b1_s b2_s b2_s (E 4 j) (E 0 (J 2 j)) gk_s g2_s) gk_s rfl rfl ⟨rfl, rfl, Nat.le_of_ble_eq_true rfl, Nat.le_of_ble_eq_true rfl⟩ rfl hl.1 rfl (Nat.le_of_ble_eq_true rfl) dX4_addParts_25 ⟨Nat.le_of_ble_eq_true rfl, Nat.le_of_ble_eq_true rfl⟩) (fun r_25 h_25 => ?_)
  refine lv_istore (lv' := [(5, .int r_25), (4, .int r_15), (3, .int r_10), (2, .int r_1), (0, .ref Z), (1, .ref a)]) hx hb dX4_addParts_28 hl (by decide) rfl (fun ls hl => ?_)
  refine lv_aload_n hx hb dX4_addParts_30 rfl (lv_at hl 5 rfl) ?_
  refine ro_goI (ro_V (As := []) (rest := []) C hW.rd st_X4_112 (c_X0_partCount l D cs _ a b1_s b2_s (E 4 j) (E 0 (J 1 j)) (E 0 (J 2 j)) gk_s g1_s g2_s) gk_s rfl rfl ⟨rfl, rfl, Nat.le_of_ble_eq_true rfl, Nat.le_of_ble_eq_true rfl⟩ rfl hl.1 rfl (Nat.le_of_ble_eq_true rfl) dX4_addParts_31 ⟨Nat.le_of_ble_eq_true rfl, Nat.le_of_ble_eq_true rfl⟩) (fun r_31 h_31 => ?_)
  refine lv_iconst (v := 1) hx hb dX4_addParts_34 (by decide) ?_
  refine lv_icmp_ne (tgt := 66) hx hb dX4_addParts_35 (by decide) (fun c_35 => ?_) (fun c_35 => ?_)
  · refine lv_aload_n hx hb dX4_addParts_66 rfl (lv_at hl 4 rfl) ?_
    refine w_new (ci := 3) (fs := [.null, .int 0, .int 0, .int 0, .int 0, .int 0, .int 0, .null, .int 0, .int 0]) C hW rfl inX3 tyX3 tyX3_ok wm_20 wm_232 wm_233 (fun j hj => by rcases (show j = 0 ∨ j = 1 ∨ j = 2 ∨ j = 3 ∨ j = 4 ∨ j = 5 ∨ j = 6 ∨ j = 7 ∨ j = 8 ∨ j = 9 by omega) with rfl | rfl | rfl | rfl | rfl | rfl | rfl | rfl | rfl | rfl <;> rfl) (by decide) (by decide) dX4_addParts_67 (fun q_67 H nq_67 hW => ?_)
    have hC0 := hC
    have hC := CSx.more hC0 (fun _ _ z => up_keep (e2 := some (.inr (3, [.null, .int 0, .int 0, .int 0, .int 0, .int 0, .int 0, .null, .int 0, .int 0]))) z nq_67)
    obtain ⟨d_q_67, b1_q_67, b2_q_67, ga_q_67, gk_q_67, g1_q_67, g2_q_67⟩ := CSx.cur hC j (by omega)
    have e_q_67 : a = d_q_67 := Option.some.inj (hCAj.symm.trans ga_q_67)
    subst e_q_67
    refine lv_dup hx hb dX4_addParts_70 rfl ?_
    refine lv_aload_n hx hb dX4_addParts_71 rfl (lv_at hl 5 rfl) ?_
    refine lv_aload_n hx hb dX4_addParts_72 rfl (lv_at hl 5 rfl) ?_
    refine gf_X4_99 C hW.rd gk_q_67 rfl dX4_addParts_73 ?_
    refine gf_X4_207 C hW.rd g1_q_67 rfl dX4_addParts_76 ?_
    refine lv_iload_n hx hb dX4_addParts_79 rfl (lv_at hl 3 rfl) ?_
    refine lv_iload_n hx hb dX4_addParts_80 rfl (lv_at hl 2 rfl) ?_
    refine lv_aload_n hx hb dX4_addParts_81 rfl (lv_at hl 4 rfl) ?_
    refine gf_X4_9 C hW.rd (CSx.z hC) rfl dX4_addParts_82 ?_
    refine lv_aload_n hx hb dX4_addParts_85 rfl (lv_at hl 5 rfl) ?_
    refine gf_X4_99 C hW.rd gk_q_67 rfl dX4_addParts_86 ?_
    refine gf_X4_207 C hW.rd g1_q_67 rfl dX4_addParts_89 ?_
    refine top_eq (y := nI la) hla ?_
    refine r_ialdN (k := la) C hW.rd (CSx.wd hC) (by omega) (by decide) rfl dX4_addParts_92 ?_
    refine lv_iload_n hx hb dX4_addParts_93 rfl (lv_at hl 2 rfl) ?_
    refine wr_goV hW (wr_I (As := [.ref a, .int (E 0 (J 1 j) 1), .int r_1, .int r_10, .int (E 10 0 la), .int r_10]) (rest := [.ref q_67, .ref Z]) C hW st_X4_229 (c_X3_init l D cs A _ q_67 a (va_up_self _ _ _) (E 0 (J 1 j) 1) r_1 r_10 (E 10 0 la) r_10) ⟨rfl, rfl, Nat.le_of_ble_eq_true rfl, Nat.le_of_ble_eq_true rfl⟩ rfl hl.1 rfl (Nat.le_of_ble_eq_true rfl) dX4_addParts_94 ⟨Nat.le_of_ble_eq_true rfl, Nat.le_of_ble_eq_true rfl⟩) (fun M_94 H locs h_94 hW => ?_)
    obtain ⟨g_97, q1_97, q2_97, k0_97, k1_97, k2_97, u1_97, u2_97, u3_97, m1_97, m2_97, m3_97, h_94⟩ := h_94
    rw [bx_uu] at h_94
    obtain ⟨lab_97, hl_97, hm_97, hp_97, hi_97, hf_97⟩ := nP_more (lab := lab) (k := 13 + 6 * np) (i := np) nq_67 k0_97 k1_97 k2_97 u1_97 u2_97 u3_97 m1_97 m2_97 m3_97 h_94
    have hC := CSx.more (CSx.relab hC0 hl_97) hm_97
    obtain ⟨d_r97, b1_r97, b2_r97, ga_r97, gk_r97, g1_r97, g2_r97⟩ := CSx.cur hC j (by omega)
    have e_r97 : a = d_r97 := Option.some.inj (hCAj.symm.trans ga_r97)
    subst e_r97
    refine wr_goV hW (wr_V (As := [.ref q_67]) (rest := []) C hW st_X4_232 (c_X4_addPart l D cs A _ Z lab_97 ad w E J nn nb nc np NA BA CA PA hC hnp (by omega) q_67 a g_97 b1_r97 b2_r97 j _ _ _ _ hp_97 hi_97 gk_r97 hj hf_97) (CSx.z hC) rfl rfl ⟨rfl, rfl, Nat.le_of_ble_eq_true rfl, Nat.le_of_ble_eq_true rfl⟩ rfl hl.1 rfl (Nat.le_of_ble_eq_true rfl) dX4_addParts_97 ⟨Nat.le_of_ble_eq_true rfl, Nat.le_of_ble_eq_true rfl⟩) (fun M_97 H locs h_97 hW => ?_)
    obtain ⟨PA_1, w_1, ew_1, E_1, eE_1, J_1, eJ_1, hC⟩ : ∃ (PA9 : Nat → Option Nat) (w9 : Nat → Int32) (_ : w9 = va_up w 11 (nI (np + 1))) (E9 : Nat → Nat → Nat → Int32) (_ : E9 = xAddP E np (pa9 (E 0 (J 1 j) 1) r_1 r_10 (E 10 0 la) r_10) (f0 (E 0 (J 1 j) 1)) (fun _ => 0) (fun _ => 0)) (J9 : Nat → Nat → Nat) (_ : J9 = xAddPJ J np j), CSx cs lab_97 M_97 Z ad w9 E9 J9 nn nb nc (np + 1) NA BA CA PA9 := by obtain ⟨PA9, h9⟩ := h_97; exact ⟨PA9, _, rfl, _, rfl, _, rfl, h9⟩
    have hnp_1 : w_1 11 = nI (np + 1) := by rw [ew_1, va_up_self]
    obtain ⟨d_s1, b1_s1, b2_s1, ga_s1, gk_s1, g1_s1, g2_s1⟩ := CSx.cur hC j (by omega)
    have e_s1 : a = d_s1 := Option.some.inj (hCAj.symm.trans ga_s1)
    subst e_s1
    refine lv_aload_n hx hb dX4_addParts_100 rfl (lv_at hl 4 rfl) ?_
    refine w_new (ci := 3) (fs := [.null, .int 0, .int 0, .int 0, .int 0, .int 0, .int 0, .null, .int 0, .int 0]) C hW rfl inX3 tyX3 tyX3_ok wm_20 wm_232 wm_233 (fun j hj => by rcases (show j = 0 ∨ j = 1 ∨ j = 2 ∨ j = 3 ∨ j = 4 ∨ j = 5 ∨ j = 6 ∨ j = 7 ∨ j = 8 ∨ j = 9 by omega) with rfl | rfl | rfl | rfl | rfl | rfl | rfl | rfl | rfl | rfl <;> rfl) (by decide) (by decide) dX4_addParts_101 (fun q_101 H nq_101 hW => ?_)
    have hC0 := hC
    have hC := CSx.more hC0 (fun _ _ z => up_keep (e2 := some (.inr (3, [.null, .int 0, .int 0, .int 0, .int 0, .int 0, .int 0, .null, .int 0, .int 0]))) z nq_101)
    obtain ⟨d_q_101, b1_q_101, b2_q_101, ga_q_101, gk_q_101, g1_q_101, g2_q_101⟩ := CSx.cur hC j (by omega)
    have e_q_101 : a = d_q_101 := Option.some.inj (hCAj.symm.trans ga_q_101)
    subst e_q_101
    refine lv_dup hx hb dX4_addParts_104 rfl ?_
    refine lv_aload_n hx hb dX4_addParts_105 rfl (lv_at hl 5 rfl) ?_
    refine lv_aload_n hx hb dX4_addParts_106 rfl (lv_at hl 5 rfl) ?_
    refine gf_X4_106 C hW.rd gk_q_101 rfl dX4_addParts_107 ?_
    refine gf_X4_207 C hW.rd g2_q_101 rfl dX4_addParts_110 ?_
    refine lv_iconst (v := 0) hx hb dX4_addParts_113 (by decide) ?_
    refine lv_iload hx hb dX4_addParts_114 (lv_at hl 0 rfl) ?_
    refine lv_iload hx hb dX4_addParts_116 (lv_at hl 1 rfl) ?_
    refine lv_iload hx hb dX4_addParts_118 (lv_at hl 0 rfl) ?_
    refine wr_goV hW (wr_I (As := [.ref a, .int (E_1 0 (J_1 2 j) 1), .int 0, .int r_25, .int r_15, .int r_25]) (rest := [.ref q_101, .ref Z]) C hW st_X4_229 (c_X3_init l D cs A _ q_101 a (va_up_self _ _ _) (E_1 0 (J_1 2 j) 1) 0 r_25 r_15 r_25) ⟨rfl, rfl, Nat.le_of_ble_eq_true rfl, Nat.le_of_ble_eq_true rfl⟩ rfl hl.1 rfl (Nat.le_of_ble_eq_true rfl) dX4_addParts_120 ⟨Nat.le_of_ble_eq_true rfl, Nat.le_of_ble_eq_true rfl⟩) (fun M_120 H locs h_120 hW => ?_)
    obtain ⟨g_123, q1_123, q2_123, k0_123, k1_123, k2_123, u1_123, u2_123, u3_123, m1_123, m2_123, m3_123, h_120⟩ := h_120
    rw [bx_uu] at h_120
    obtain ⟨lab_123, hl_123, hm_123, hp_123, hi_123, hf_123⟩ := nP_more (lab := lab_97) (k := 13 + 6 * (np + 1)) (i := (np + 1)) nq_101 k0_123 k1_123 k2_123 u1_123 u2_123 u3_123 m1_123 m2_123 m3_123 h_120
    have hC := CSx.more (CSx.relab hC0 hl_123) hm_123
    obtain ⟨d_r123, b1_r123, b2_r123, ga_r123, gk_r123, g1_r123, g2_r123⟩ := CSx.cur hC j (by omega)
    have e_r123 : a = d_r123 := Option.some.inj (hCAj.symm.trans ga_r123)
    subst e_r123
    refine wr_goV hW (wr_V (As := [.ref q_101]) (rest := []) C hW st_X4_232 (c_X4_addPart l D cs A _ Z lab_123 ad w_1 E_1 J_1 nn nb nc (np + 1) NA BA CA PA_1 hC hnp_1 (by omega) q_101 a g_123 b1_r123 b2_r123 j _ _ _ _ hp_123 hi_123 gk_r123 hj hf_123) (CSx.z hC) rfl rfl ⟨rfl, rfl, Nat.le_of_ble_eq_true rfl, Nat.le_of_ble_eq_true rfl⟩ rfl hl.1 rfl (Nat.le_of_ble_eq_true rfl) dX4_addParts_123 ⟨Nat.le_of_ble_eq_true rfl, Nat.le_of_ble_eq_true rfl⟩) (fun M_123 H locs h_123 hW => ?_)
    obtain ⟨PA_2, w_2, ew_2, E_2, eE_2, J_2, eJ_2, hC⟩ : ∃ (PA9 : Nat → Option Nat) (w9 : Nat → Int32) (_ : w9 = va_up w_1 11 (nI ((np + 1) + 1))) (E9 : Nat → Nat → Nat → Int32) (_ : E9 = xAddP E_1 (np + 1) (pa9 (E_1 0 (J_1 2 j) 1) 0 r_25 r_15 r_25) (f0 (E_1 0 (J_1 2 j) 1)) (fun _ => 0) (fun _ => 0)) (J9 : Nat → Nat → Nat) (_ : J9 = xAddPJ J_1 (np + 1) j), CSx cs lab_123 M_123 Z ad w9 E9 J9 nn nb nc ((np + 1) + 1) NA BA CA PA9 := by obtain ⟨PA9, h9⟩ := h_123; exact ⟨PA9, _, rfl, _, rfl, _, rfl, h9⟩
    have hnp_2 : w_2 11 = nI ((np + 1) + 1) := by rw [ew_2, va_up_self]
    refine W.widen (k := 8) (n := 50) (by decide) (by decide) ?_
    exact wr_vret C hW hr hlk (⟨_, _, by have hpc : pcN E J j = 2 := pcN_2 (by rw [← h_31]; exact c_35); have hpn : ¬ pcN E J j = 1 := (by omega); have e1 : E_1 = xAp E E J np j la 0 := (by rw [eE_1, h_1, h_10]; unfold xAp xPq xPl; rw [if_neg hpn, if_pos rfl, if_pos rfl]); have z0 : E_1 0 = E 0 := (by rw [eE_1, xAddP_o _ _ _ _ _ _ (by decide) (by decide) (by decide) (by decide)]); have z2 : J_1 2 = J 2 := (by rw [eJ_1, xAddPJ_o _ _ _ (by decide)]); have e2 : E_2 = xAp (xAp E E J np j la 0) E J (np + 1) j la 1 := (by rw [← e1, eE_2, z0, z2, h_15, h_25]; unfold xAp xPq xPl; rw [if_neg hpn, if_neg (by decide), if_neg (by decide)]); have q : xAddPs E J np j la = (E_2, J_2) := (by rw [xAddPs, if_neg hpn, ← e2, eJ_2, eJ_1]); have ew : w_2 = va_up w 11 (nI (np + 2)) := (by rw [ew_2, ew_1, bx_uu]); rw [q, hpc, ← ew]; exact hC⟩) dX4_addParts_126
  · refine lv_aload_n hx hb dX4_addParts_38 rfl (lv_at hl 4 rfl) ?_
    refine w_new (ci := 3) (fs := [.null, .int 0, .int 0, .int 0, .int 0, .int 0, .int 0, .null, .int 0, .int 0]) C hW rfl inX3 tyX3 tyX3_ok wm_20 wm_232 wm_233 (fun j hj => by rcases (show j = 0 ∨ j = 1 ∨ j = 2 ∨ j = 3 ∨ j = 4 ∨ j = 5 ∨ j = 6 ∨ j = 7 ∨ j = 8 ∨ j = 9 by omega) with rfl | rfl | rfl | rfl | rfl | rfl | rfl | rfl | rfl | rfl <;> rfl) (by decide) (by decide) dX4_addParts_39 (fun q_39 H nq_39 hW => ?_)
    have hC0 := hC
    have hC := CSx.more hC0 (fun _ _ z => up_keep (e2 := some (.inr (3, [.null, .int 0, .int 0, .int 0, .int 0, .int 0, .int 0, .null, .int 0, .int 0]))) z nq_39)
    obtain ⟨d_q_39, b1_q_39, b2_q_39, ga_q_39, gk_q_39, g1_q_39, g2_q_39⟩ := CSx.cur hC j (by omega)
    have e_q_39 : a = d_q_39 := Option.some.inj (hCAj.symm.trans ga_q_39)
    subst e_q_39
    refine lv_dup hx hb dX4_addParts_42 rfl ?_
    refine lv_aload_n hx hb dX4_addParts_43 rfl (lv_at hl 5 rfl) ?_
    refine lv_aload_n hx hb dX4_addParts_44 rfl (lv_at hl 5 rfl) ?_
    refine gf_X4_99 C hW.rd gk_q_39 rfl dX4_addParts_45 ?_
    refine gf_X4_207 C hW.rd g1_q_39 rfl dX4_addParts_48 ?_
    refine lv_iload_n hx hb dX4_addParts_51 rfl (lv_at hl 3 rfl) ?_
    refine lv_iload_n hx hb dX4_addParts_52 rfl (lv_at hl 2 rfl) ?_
    refine lv_iload hx hb dX4_addParts_53 (lv_at hl 1 rfl) ?_
    refine lv_iload hx hb dX4_addParts_55 (lv_at hl 0 rfl) ?_
    refine wr_goV hW (wr_I (As := [.ref a, .int (E 0 (J 1 j) 1), .int r_1, .int r_10, .int r_15, .int r_25]) (rest := [.ref q_39, .ref Z]) C hW st_X4_229 (c_X3_init l D cs A _ q_39 a (va_up_self _ _ _) (E 0 (J 1 j) 1) r_1 r_10 r_15 r_25) ⟨rfl, rfl, Nat.le_of_ble_eq_true rfl, Nat.le_of_ble_eq_true rfl⟩ rfl hl.1 rfl (Nat.le_of_ble_eq_true rfl) dX4_addParts_57 ⟨Nat.le_of_ble_eq_true rfl, Nat.le_of_ble_eq_true rfl⟩) (fun M_57 H locs h_57 hW => ?_)
    obtain ⟨g_60, q1_60, q2_60, k0_60, k1_60, k2_60, u1_60, u2_60, u3_60, m1_60, m2_60, m3_60, h_57⟩ := h_57
    rw [bx_uu] at h_57
    obtain ⟨lab_60, hl_60, hm_60, hp_60, hi_60, hf_60⟩ := nP_more (lab := lab) (k := 13 + 6 * np) (i := np) nq_39 k0_60 k1_60 k2_60 u1_60 u2_60 u3_60 m1_60 m2_60 m3_60 h_57
    have hC := CSx.more (CSx.relab hC0 hl_60) hm_60
    obtain ⟨d_r60, b1_r60, b2_r60, ga_r60, gk_r60, g1_r60, g2_r60⟩ := CSx.cur hC j (by omega)
    have e_r60 : a = d_r60 := Option.some.inj (hCAj.symm.trans ga_r60)
    subst e_r60
    refine wr_goV hW (wr_V (As := [.ref q_39]) (rest := []) C hW st_X4_232 (c_X4_addPart l D cs A _ Z lab_60 ad w E J nn nb nc np NA BA CA PA hC hnp (by omega) q_39 a g_60 b1_r60 b2_r60 j _ _ _ _ hp_60 hi_60 gk_r60 hj hf_60) (CSx.z hC) rfl rfl ⟨rfl, rfl, Nat.le_of_ble_eq_true rfl, Nat.le_of_ble_eq_true rfl⟩ rfl hl.1 rfl (Nat.le_of_ble_eq_true rfl) dX4_addParts_60 ⟨Nat.le_of_ble_eq_true rfl, Nat.le_of_ble_eq_true rfl⟩) (fun M_60 H locs h_60 hW => ?_)
    obtain ⟨PA_3, w_3, ew_3, E_3, eE_3, J_3, eJ_3, hC⟩ : ∃ (PA9 : Nat → Option Nat) (w9 : Nat → Int32) (_ : w9 = va_up w 11 (nI (np + 1))) (E9 : Nat → Nat → Nat → Int32) (_ : E9 = xAddP E np (pa9 (E 0 (J 1 j) 1) r_1 r_10 r_15 r_25) (f0 (E 0 (J 1 j) 1)) (fun _ => 0) (fun _ => 0)) (J9 : Nat → Nat → Nat) (_ : J9 = xAddPJ J np j), CSx cs lab_60 M_60 Z ad w9 E9 J9 nn nb nc (np + 1) NA BA CA PA9 := by obtain ⟨PA9, h9⟩ := h_60; exact ⟨PA9, _, rfl, _, rfl, _, rfl, h9⟩
    have hnp_3 : w_3 11 = nI (np + 1) := by rw [ew_3, va_up_self]
    obtain ⟨d_s3, b1_s3, b2_s3, ga_s3, gk_s3, g1_s3, g2_s3⟩ := CSx.cur hC j (by omega)
    have e_s3 : a = d_s3 := Option.some.inj (hCAj.symm.trans ga_s3)
    subst e_s3
    refine lv_goto (tgt := 126) hx hb dX4_addParts_63 (by decide) ?_
    refine W.widen (k := 8) (n := 50) (by decide) (by decide) ?_
    exact wr_vret C hW hr hlk (⟨_, _, by have hpc : pcN E J j = 1 := pcN_1 (by rw [← h_31]; exact c_35); have e1 : E_3 = xAp E E J np j la 0 := (by rw [eE_3, h_1, h_10, h_15, h_25]; unfold xAp xPq xPl; rw [if_pos hpc, if_pos rfl]); have q : xAddPs E J np j la = (E_3, J_3) := (by rw [xAddPs, if_pos hpc, ← e1, ← eJ_3]); rw [q, hpc, ← ew_3]; exact hC⟩) dX4_addParts_126


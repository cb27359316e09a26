def xSide (E : Nat → Nat → Nat → Int32) (nn i1 i2 : Nat) (t : Int32) : Int32 := if t = 0 then xSlur E (E 0 i1) (E 0 i2) nn else xTie E (E 0 i1) nn
def xE1 (E : Nat → Nat → Nat → Int32) (nn nc np i1 i2 : Nat) (t : Int32) : Nat → Nat → Nat → Int32 := xAddC E nc (cu6 (nI nc) t (xSide E nn i1 i2 t) (nI np))
/-- what a new curve does -/
def xNewC (w : Nat → Int32) (E : Nat → Nat → Nat → Int32) (J : Nat → Nat → Nat) (nn nb nc np i1 i2 : Nat) (t r : Int32) (w2 : Nat → Int32) (E2 : Nat → Nat → Nat → Int32) (J2 : Nat → Nat → Nat) (nc2 np2 : Nat) : Prop := r = nI nc ∧ nc2 = nc + 1 ∧ np2 = np + pcN (xE1 E nn nc np i1 i2 t) (xAddCJ J nc i1 i2) nc ∧ w2 = va_up (va_up w 11 (nI np2)) 10 (nI (nc + 1)) ∧ J2 = (xAddPs (xE1 E nn nc np i1 i2 t) (xAddCJ J nc i1 i2) np nc (E 0 i1 1).toNatClampNeg).2 ∧ chS (xAddPs (xE1 E nn nc np i1 i2 t) (xAddCJ J nc i1 i2) np nc (E 0 i1 1).toNatClampNeg).1 J2 nb np2 np (pcN (xE1 E nn nc np i1 i2 t) (xAddCJ J nc i1 i2) nc) E2
def xAC (w : Nat → Int32) (E : Nat → Nat → Nat → Int32) (J : Nat → Nat → Nat) (nn nb nc np : Nat) (p1 p2 t r : Int32) (w2 : Nat → Int32) (E2 : Nat → Nat → Nat → Int32) (J2 : Nat → Nat → Nat) (nc2 np2 : Nat) : Prop := if inB p1 0 (w 7 - 1) = true ∧ inB p2 0 (w 7 - 1) = true then (if xJoin (E 10 0) (E 0 p1.toNatClampNeg) (E 0 p2.toNatClampNeg) (E 0 p1.toNatClampNeg 1).toNatClampNeg = true ∧ (t = 0 ∨ E 0 p1.toNatClampNeg 3 = E 0 p2.toNatClampNeg 3) then (if nc < 40 then xNewC w E J nn nb nc np p1.toNatClampNeg p2.toNatClampNeg t r w2 E2 J2 nc2 np2 else (r, w2, E2, J2, nc2, np2) = (-9004, w, E, J, nc, np)) else (r, w2, E2, J2, nc2, np2) = (-9003, w, E, J, nc, np)) else (r, w2, E2, J2, nc2, np2) = (-9001, w, E, J, nc, np)
theorem xAddPs_o (E : Nat → Nat → Nat → Int32) (J : Nat → Nat → Nat) (np j la : Nat) {k : Nat} (h5 : k ≠ 5) (h6 : k ≠ 6) (h7 : k ≠ 7) (h8 : k ≠ 8) : (xAddPs E J np j la).1 k = E k := by
  unfold xAddPs
  split
  · exact xAddP_o _ _ _ _ _ _ h5 h6 h7 h8
  · exact (xAddP_o _ _ _ _ _ _ h5 h6 h7 h8).trans (xAddP_o _ _ _ _ _ _ h5 h6 h7 h8)
theorem xAddPs_J (E : Nat → Nat → Nat → Int32) (J : Nat → Nat → Nat) (np j la : Nat) {k : Nat} (h : k ≠ 3) : (xAddPs E J np j la).2 k = J k := by
  unfold xAddPs
  split
  · exact xAddPJ_o _ _ _ h
  · exact (xAddPJ_o _ _ _ h).trans (xAddPJ_o _ _ _ h)
set_option maxHeartbeats 4000000 in
set_option maxRecDepth 100000 in
theorem c_X4_addCurve (l : Launch) (D : va_G) (cs : Nat → ClassId) (A : Nat → Prop) (M : wM) (Z : Nat) (lab ad : Nat → Nat) (w : Nat → Int32) (E : Nat → Nat → Nat → Int32) (J : Nat → Nat → Nat) (nn nb nc np : Nat) (NA BA CA PA : Nat → Option Nat) (hC : CSx cs lab M Z ad w E J nn nb nc np NA BA CA PA) (hnn : w 7 = nI nn) (hn60 : nn ≤ 60) (hnc : w 10 = nI nc) (hc40 : nc ≤ 40) (hpb : np ≤ 2 * nc) (nm nw : Nat) (hnm : w 8 = nI nm) (hnw : w 9 = nI nw) (hb9 : nb = nm + nw) (hb52 : nb ≤ 52) (hnp : w 11 = nI np) (hp80 : np ≤ 80) (hLN : ∀ i, i < nn → E 0 i 1 = nI (E 0 i 1).toNatClampNeg ∧ (E 0 i 1).toNatClampNeg < 4) (p1 p2 t : Int32) (ht : t = 0 ∨ t = 1) : Met l yX4_addCurve (mw yX4_addCurve cX4_addCurve 9 (some .int)) { frames := 5, cells := 9, slots := 56, locals := 121 } (wrP D cs A M [.ref Z, .int p1, .int p2, .int t]) (va_Qi (fun r M' => ∃ lab' w' E' J' nc' np' CA' PA', CSx cs lab' M' Z ad w' E' J' nn nb nc' np' NA BA CA' PA' ∧ xAC w E J nn nb nc np p1 p2 t r w' E' J' nc' np') (wrB D A) A) 9 56 A := by
  refine wr_met rfl (Nat.le_of_ble_eq_true rfl) ?_
  intro p e s m below meth c ls C hW hr hlk hini hl
  have C : kx D cs p m c cX4_addCurve 9 s _ RX4 := C
  have hx := C.1.1
  have hb := C.1.2.1
  have hl : lv_has ls 9 [(0, .ref Z), (1, .int p1), (2, .int p2), (3, .int t)] := hl
  refine lv_aload_n hx hb dX4_addCurve_0 rfl (lv_at hl 0 rfl) ?_
  refine lv_iload_n hx hb dX4_addCurve_1 rfl (lv_at hl 1 rfl) ?_
  refine ro_goI (ro_V (As := [.int p1]) (rest := []) C hW.rd st_X4_178 (c_X4_isNote l D cs _ Z lab ad w E J nn nb nc np NA BA CA PA hC p1) (CSx.z hC) rfl rfl ⟨rfl, rfl, Nat.le_of_ble_eq_true rfl, Nat.le_of_ble_eq_true rfl⟩ rfl hl.1 rfl (Nat.le_of_ble_eq_true rfl) dX4_addCurve_2 ⟨Nat.le_of_ble_eq_true rfl, Nat.le_of_ble_eq_true rfl⟩) (fun r_2 h_2 => ?_)
  refine lv_if_eq (tgt := 16) hx hb dX4_addCurve_5 (by decide) (fun c_5 => ?_) (fun c_5 => ?_)
  · have c_5 : ¬ (inB p1 0 (w 7 - 1) = true) := bz0 h_2 c_5
    refine lv_sipush (v := (-9001)) hx hb dX4_addCurve_16 (by decide) ?_
    refine W.widen (k := 9) (n := 56) (by decide) (by decide) ?_
    exact wr_iret C hW hr hlk (⟨_, _, _, _, _, _, _, _, hC, by rw [xAC, if_neg (fun h => c_5 h.1)]⟩) dX4_addCurve_19
  · have c_5 : inB p1 0 (w 7 - 1) = true := bz1 h_2 c_5
    obtain ⟨i1, hji1, rfl⟩ := inP_nat c_5 hnn (by omega)
    have hcli1 := nI_clamp (n := i1) (by omega)
    refine lv_aload_n hx hb dX4_addCurve_8 rfl (lv_at hl 0 rfl) ?_
    refine lv_iload_n hx hb dX4_addCurve_9 rfl (lv_at hl 2 rfl) ?_
    refine ro_goI (ro_V (As := [.int p2]) (rest := []) C hW.rd st_X4_178 (c_X4_isNote l D cs _ Z lab ad w E J nn nb nc np NA BA CA PA hC p2) (CSx.z hC) rfl rfl ⟨rfl, rfl, Nat.le_of_ble_eq_true rfl, Nat.le_of_ble_eq_true rfl⟩ rfl hl.1 rfl (Nat.le_of_ble_eq_true rfl) dX4_addCurve_10 ⟨Nat.le_of_ble_eq_true rfl, Nat.le_of_ble_eq_true rfl⟩) (fun r_10 h_10 => ?_)
    refine lv_if_ne (tgt := 20) hx hb dX4_addCurve_13 (by decide) (fun c_13 => ?_) (fun c_13 => ?_)
    · have c_13 : inB p2 0 (w 7 - 1) = true := bz1 h_10 c_13
      obtain ⟨i2, hji2, rfl⟩ := inP_nat c_13 hnn (by omega)
      have hcli2 := nI_clamp (n := i2) (by omega)
      obtain ⟨hla, hl4⟩ := hLN i1 hji1
      refine lv_aload_n hx hb dX4_addCurve_20 rfl (lv_at hl 0 rfl) ?_
      refine gf_X4_15 C hW.rd (CSx.z hC) rfl dX4_addCurve_21 ?_
      refine lv_iload_n hx hb dX4_addCurve_24 rfl (lv_at hl 1 rfl) ?_
      obtain ⟨a_25, ga_25, gn_25⟩ := CSx.note hC i1 (by omega)
      refine r_aaldN (k := i1) C hW.rd 5 (CSx.na hC) rfl (by omega) (by decide) rfl ga_25 dX4_addCurve_25 ?_
      refine lv_astore (lv' := [(4, .ref a_25), (0, .ref Z), (1, .int (nI i1)), (2, .int (nI i2)), (3, .int t)]) hx hb dX4_addCurve_26 hl (by decide) rfl (fun ls hl => ?_)
      refine lv_aload_n hx hb dX4_addCurve_28 rfl (lv_at hl 1 rfl) ?_
      refine gf_X4_15 C hW.rd (CSx.z hC) rfl dX4_addCurve_29 ?_
      refine lv_iload_n hx hb dX4_addCurve_32 rfl (lv_at hl 3 rfl) ?_
      obtain ⟨a_33, ga_33, gn_33⟩ := CSx.note hC i2 (by omega)
      refine r_aaldN (k := i2) C hW.rd 5 (CSx.na hC) rfl (by omega) (by decide) rfl ga_33 dX4_addCurve_33 ?_
      refine lv_astore (lv' := [(5, .ref a_33), (4, .ref a_25), (0, .ref Z), (1, .int (nI i1)), (2, .int (nI i2)), (3, .int t)]) hx hb dX4_addCurve_34 hl (by decide) rfl (fun ls hl => ?_)
      refine lv_aload_n hx hb dX4_addCurve_36 rfl (lv_at hl 2 rfl) ?_
      refine lv_aload hx hb dX4_addCurve_37 (lv_at hl 1 rfl) ?_
      refine lv_aload hx hb dX4_addCurve_39 (lv_at hl 0 rfl) ?_
      refine ro_goI (ro_V (As := [.ref a_25, .ref a_33]) (rest := []) C hW.rd st_X4_181 (c_X4_canBeJoined l D cs _ Z lab ad w E J nn nb nc np NA BA CA PA hC a_25 a_33 (E 0 i1) (E 0 i2) gn_25 gn_33 (E 0 i1 1).toNatClampNeg hla (by omega)) (CSx.z hC) rfl rfl ⟨rfl, rfl, Nat.le_of_ble_eq_true rfl, Nat.le_of_ble_eq_true rfl⟩ rfl hl.1 rfl (Nat.le_of_ble_eq_true rfl) dX4_addCurve_41 ⟨Nat.le_of_ble_eq_true rfl, Nat.le_of_ble_eq_true rfl⟩) (fun r_41 h_41 => ?_)
      refine lv_if_eq (tgt := 64) hx hb dX4_addCurve_44 (by decide) (fun c_44 => ?_) (fun c_44 => ?_)
      · have c_44 : ¬ (xJoin (E 10 0) (E 0 i1) (E 0 i2) (E 0 i1 1).toNatClampNeg = true) := bz0 h_41 c_44
        refine lv_sipush (v := (-9003)) hx hb dX4_addCurve_64 (by decide) ?_
        refine W.widen (k := 9) (n := 56) (by decide) (by decide) ?_
        exact wr_iret C hW hr hlk (⟨_, _, _, _, _, _, _, _, hC, by rw [xAC, if_pos ⟨c_5, c_13⟩, hcli1, hcli2, if_neg (fun h => c_44 h.1)]⟩) dX4_addCurve_67
      · have c_44 : xJoin (E 10 0) (E 0 i1) (E 0 i2) (E 0 i1 1).toNatClampNeg = true := bz1 h_41 c_44
        refine W.cutP (t = 0 ∨ E 0 i1 3 = E 0 i2 3) (F0 m 68 ls []) (fun hz_68 => ?_) (fun J_68 => ?_)
        · refine lv_aload_n hx hb dX4_addCurve_68 rfl (lv_at hl 2 rfl) ?_
          refine gf_X4_169 C hW.rd (CSx.z hC) rfl dX4_addCurve_69 ?_
          refine top_eq (y := nI nc) hnc ?_
          refine lv_bipush (v := 40) hx hb dX4_addCurve_72 (by decide) ?_
          refine lv_icmp_lt (tgt := 81) hx hb dX4_addCurve_74 (by decide) (fun c_74 => ?_) (fun c_74 => ?_)
          · have c_74 := clt_t (a := nc) (b := 40) c_74 (by omega) (by omega)
            refine W.cut (fun z => z = xSide E nn i1 i2 t) (fun z => F0 m 102 ls (.int z :: [])) (fun z_102 hz_102 => ?_) (fun J_102 => ?_)
            · refine lv_istore (lv' := [(6, .int z_102), (5, .ref a_33), (4, .ref a_25), (0, .ref Z), (1, .int (nI i1)), (2, .int (nI i2)), (3, .int t)]) hx hb dX4_addCurve_102 hl (by decide) rfl (fun ls hl => ?_)
              refine w_new (ci := 0) (fs := [.int 0, .null, .null, .int 0, .int 0, .int 0]) C hW rfl inX0 tyX0 tyX0_ok wm_18 wm_182 wm_183 (fun j hj => by rcases (show j = 0 ∨ j = 1 ∨ j = 2 ∨ j = 3 ∨ j = 4 ∨ j = 5 by omega) with rfl | rfl | rfl | rfl | rfl | rfl <;> rfl) (by decide) (by decide) dX4_addCurve_104 (fun q_104 H nq_104 hW => ?_)
              have hC0 := hC
              have m_25 := gn_25
              have m_33 := gn_33
              have hC := CSx.more hC0 (fun _ _ z => up_keep (e2 := some (.inr (0, [.int 0, .null, .null, .int 0, .int 0, .int 0]))) z nq_104)
              have gn_25 := up_keep (e2 := some (.inr (0, [.int 0, .null, .null, .int 0, .int 0, .int 0]))) m_25 nq_104
              have gn_33 := up_keep (e2 := some (.inr (0, [.int 0, .null, .null, .int 0, .int 0, .int 0]))) m_33 nq_104
              refine lv_dup hx hb dX4_addCurve_107 rfl ?_
              refine lv_aload_n hx hb dX4_addCurve_108 rfl (lv_at hl 3 rfl) ?_
              refine gf_X4_169 C hW.rd (CSx.z hC) rfl dX4_addCurve_109 ?_
              refine top_eq (y := nI nc) hnc ?_
              refine lv_aload hx hb dX4_addCurve_112 (lv_at hl 2 rfl) ?_
              refine lv_aload hx hb dX4_addCurve_114 (lv_at hl 1 rfl) ?_
              refine lv_iload_n hx hb dX4_addCurve_116 rfl (lv_at hl 6 rfl) ?_
              refine lv_iload hx hb dX4_addCurve_117 (lv_at hl 0 rfl) ?_
              refine lv_aload_n hx hb dX4_addCurve_119 rfl (lv_at hl 3 rfl) ?_
              refine gf_X4_86 C hW.rd (CSx.z hC) rfl dX4_addCurve_120 ?_
              refine top_eq (y := nI np) hnp ?_
              refine wr_goV hW (wr_I (As := [.int (nI nc), .ref a_25, .ref a_33, .int t, .int z_102, .int (nI np)]) (rest := [.ref q_104]) C hW st_X4_196 (c_X0_init l D cs A _ q_104 a_25 a_33 (va_up_self _ _ _) (nI nc) t z_102 (nI np) ht) ⟨rfl, rfl, Nat.le_of_ble_eq_true rfl, Nat.le_of_ble_eq_true rfl⟩ rfl hl.1 rfl (Nat.le_of_ble_eq_true rfl) dX4_addCurve_123 ⟨Nat.le_of_ble_eq_true rfl, Nat.le_of_ble_eq_true rfl⟩) (fun M_123 H locs h_123 hW => ?_)
              rw [h_123, bx_uu] at hW
              have hC := CSx.more hC0 (fun _ _ z => up_keep (e2 := some (curC (cu6 (nI nc) t z_102 (nI np)) a_25 a_33)) z nq_104)
              have gn_25 := up_keep (e2 := some (curC (cu6 (nI nc) t z_102 (nI np)) a_25 a_33)) m_25 nq_104
              have gn_33 := up_keep (e2 := some (curC (cu6 (nI nc) t z_102 (nI np)) a_25 a_33)) m_33 nq_104
              refine lv_astore (lv' := [(7, .ref q_104), (6, .int z_102), (5, .ref a_33), (4, .ref a_25), (0, .ref Z), (1, .int (nI i1)), (2, .int (nI i2)), (3, .int t)]) hx hb dX4_addCurve_126 hl (by decide) rfl (fun ls hl => ?_)
              refine lv_aload_n hx hb dX4_addCurve_128 rfl (lv_at hl 4 rfl) ?_
              refine gf_X4_27 C hW.rd (CSx.z hC) rfl dX4_addCurve_129 ?_
              refine lv_aload_n hx hb dX4_addCurve_132 rfl (lv_at hl 4 rfl) ?_
              refine gf_X4_169 C hW.rd (CSx.z hC) rfl dX4_addCurve_133 ?_
              refine top_eq (y := nI nc) hnc ?_
              refine lv_aload hx hb dX4_addCurve_136 (lv_at hl 0 rfl) ?_
              refine w_aastN (k := nc) C hW 3 0 (CSx.ca hC) rfl (va_up_self _ _ _) rfl (by omega) (by decide) rfl dX4_addCurve_138 (fun H locs hW => ?_)
              obtain ⟨M, CA1, hCAq, hC, hW⟩ : ∃ (M : wM) (CA9 : Nat → Option Nat) (_ : CA9 nc = some q_104), CSx cs lab M Z ad w (xAddC E nc (cu6 (nI nc) t z_102 (nI np))) (xAddCJ J nc i1 i2) nn nb (nc + 1) np NA BA CA9 PA ∧ wd D A M s.heap H locs := ⟨_, _, va_up_self _ _ _, CSx.addCurve (CSx.setCA hC _ (fun i hi => va_up_ne _ _ (by omega))) (up_o (CSx.ca hC) (va_up_self _ _ _) k_kr) (up_o (CSx.ca hC) gn_25 k_nr) (up_o (CSx.ca hC) gn_33 k_nr) hji1 hji2 (va_up_self _ _ _), hW⟩
              obtain ⟨E_1, eE_1⟩ : ∃ E9, E9 = xAddC E nc (cu6 (nI nc) t z_102 (nI np)) := ⟨_, rfl⟩
              obtain ⟨J_1, eJ_1⟩ : ∃ J9, J9 = xAddCJ J nc i1 i2 := ⟨_, rfl⟩
              rw [← eE_1, ← eJ_1] at hC
              have hla1 : E_1 0 (J_1 1 nc) 1 = nI (E 0 i1 1).toNatClampNeg := by rw [eE_1, eJ_1, xAddC_o _ _ _ (by decide), xAddCJ_1, va_up_self]; exact hla
              have hpc := pcN_le E_1 J_1 nc
              refine lv_aload_n hx hb dX4_addCurve_139 rfl (lv_at hl 4 rfl) ?_
              refine lv_aload hx hb dX4_addCurve_140 (lv_at hl 0 rfl) ?_
              refine wr_goV hW (wr_V (As := [.ref q_104]) (rest := []) C hW st_X4_199 (c_X4_addParts l D cs A _ Z lab ad w E_1 J_1 nn nb (nc + 1) np NA BA CA1 PA hC hnp (by omega) nc q_104 (by omega) hCAq (E 0 i1 1).toNatClampNeg hla1 hl4) (CSx.z hC) rfl rfl ⟨rfl, rfl, Nat.le_of_ble_eq_true rfl, Nat.le_of_ble_eq_true rfl⟩ rfl hl.1 rfl (Nat.le_of_ble_eq_true rfl) dX4_addCurve_142 ⟨Nat.le_of_ble_eq_true rfl, Nat.le_of_ble_eq_true rfl⟩) (fun M_142 H locs h_142 hW => ?_)
              obtain ⟨lab2, PA2, w_2, ew_2, E_2, eE_2, J_2, eJ_2, np2, enp, hC⟩ : ∃ (lab9 : Nat → Nat) (PA9 : Nat → Option Nat) (w9 : Nat → Int32) (_ : w9 = va_up w 11 (nI (np + pcN E_1 J_1 nc))) (E9 : Nat → Nat → Nat → Int32) (_ : E9 = (xAddPs E_1 J_1 np nc (E 0 i1 1).toNatClampNeg).1) (J9 : Nat → Nat → Nat) (_ : J9 = (xAddPs E_1 J_1 np nc (E 0 i1 1).toNatClampNeg).2) (n9 : Nat) (_ : n9 = np + pcN E_1 J_1 nc), CSx cs lab9 M_142 Z ad w9 E9 J9 nn nb (nc + 1) n9 NA BA CA1 PA9 := by obtain ⟨l9, PA9, h9⟩ := h_142; exact ⟨l9, PA9, _, rfl, _, rfl, _, rfl, _, rfl, h9⟩
              have hnm2 : w_2 8 = nI nm := by rw [ew_2, va_up_ne _ _ (by decide)]; exact hnm
              have hnw2 : w_2 9 = nI nw := by rw [ew_2, va_up_ne _ _ (by decide)]; exact hnw
              have hnc2 : w_2 10 = nI nc := by rw [ew_2, va_up_ne _ _ (by decide)]; exact hnc
              have hnp2 : w_2 11 = nI np2 := by rw [ew_2, va_up_self, enp]
              obtain ⟨d_7, b1_7, b2_7, ga_7, gk_7, g1_7, g2_7⟩ := CSx.cur hC nc (by omega)
              have e_7 : q_104 = d_7 := Option.some.inj (hCAq.symm.trans ga_7)
              subst e_7
              have h475 : E_2 4 nc 5 = nI np := by rw [eE_2, xAddPs_o _ _ _ _ _ (by decide) (by decide) (by decide) (by decide), eE_1, xAddC_4, va_up_self]; rfl
              refine lv_aload hx hb dX4_addCurve_145 (lv_at hl 0 rfl) ?_
              refine gf_X4_175 C hW.rd gk_7 rfl dX4_addCurve_147 ?_
              refine top_eq (y := nI np) h475 ?_
              refine lv_istore (lv' := [(8, .int (nI np)), (7, .ref q_104), (6, .int z_102), (5, .ref a_33), (4, .ref a_25), (0, .ref Z), (1, .int (nI i1)), (2, .int (nI i2)), (3, .int t)]) hx hb dX4_addCurve_150 hl (by decide) rfl (fun ls hl => ?_)
              refine W.loopW (σ := Nat × Nat × (Nat → Nat → Nat → Int32) × Heap × List Loc × wM × Array Slot) (fun ⟨i, k, E_3, H, locs, M, ls⟩ => F0 m 152 ls []) (fun ⟨i, k, E_3, H, locs, M, ls⟩ => H) (fun ⟨i, k, E_3, H, locs, M, ls⟩ => locs) (fun ⟨i, k, E_3, H, locs, M, ls⟩ => (i ≤ np2) ∧ (i = np + k) ∧ (chS E_2 J_2 nb np2 np k E_3) ∧ (CSx cs lab2 M Z ad w_2 E_3 J_2 nn nb (nc + 1) np2 NA BA CA1 PA2) ∧ wd D A M s.heap H locs ∧ lv_has ls 9 [(8, .int (nI i)), (0, .ref Z)]) (fun ⟨i, k, E_3, H, locs, M, ls⟩ => np2 - i) ?_ (np, 0, E_2, _, _, _, _) ⟨by omega, by omega, rfl, hC, hW, lv_sub hl [0, 5] rfl⟩ rfl rfl rfl
              intro ⟨i, k, E_3, H, locs, M, ls⟩ ⟨hi, hik, hcs, hC, hW, hl⟩ ih_152
              show W _ _ _ _ _ _ _ _ _ _ H locs _ _ _ (F0 m 152 ls [])
              have hl : lv_has ls 9 [(8, .int (nI i)), (0, .ref Z)] := hl
              refine lv_iload hx hb dX4_addCurve_152 (lv_at hl 0 rfl) ?_
              refine lv_aload_n hx hb dX4_addCurve_154 rfl (lv_at hl 1 rfl) ?_
              refine gf_X4_86 C hW.rd (CSx.z hC) rfl dX4_addCurve_155 ?_
              refine top_eq (y := nI np2) hnp2 ?_
              refine lv_icmp_ge (tgt := 178) hx hb dX4_addCurve_158 (by decide) (fun c_158 => ?_) (fun c_158 => ?_)
              · have c_158 := cle_t (a := np2) (b := i) c_158 (by omega) (by omega)
                refine lv_aload_n hx hb dX4_addCurve_178 rfl (lv_at hl 1 rfl) ?_
                refine lv_dup hx hb dX4_addCurve_179 rfl ?_
                refine gf_X4_169 C hW.rd (CSx.z hC) rfl dX4_addCurve_180 ?_
                refine top_eq (y := nI nc) hnc2 ?_
                refine lv_dup_x1 hx hb dX4_addCurve_183 rfl rfl ?_
                refine lv_iconst (v := 1) hx hb dX4_addCurve_184 (by decide) ?_
                refine lv_iadd hx hb dX4_addCurve_185 ?_
                refine top_eq (y := nI (nc + 1)) (tn_add rfl rfl) ?_
                refine pf_X4_169 (fs2 := [.ref (ad 0), .ref (ad 1), .ref (ad 2), .ref (ad 3), .ref (ad 4), .ref (ad 5), .int ((va_up w_2 10 (nI (nc + 1))) 6), .int ((va_up w_2 10 (nI (nc + 1))) 7), .int ((va_up w_2 10 (nI (nc + 1))) 8), .int ((va_up w_2 10 (nI (nc + 1))) 9), .int ((va_up w_2 10 (nI (nc + 1))) 10), .int ((va_up w_2 10 (nI (nc + 1))) 11)]) C hW (CSx.z hC) (Nat.le_of_ble_eq_true rfl) rfl dX4_addCurve_186 (fun H locs hW => ?_)
                obtain ⟨M, w_1, ew_1, hC, hW⟩ : ∃ (M : wM) (w9 : Nat → Int32), w9 = va_up w_2 10 (nI (nc + 1)) ∧ CSx cs lab2 M Z ad w9 E_3 J_2 nn nb (nc + 1) np2 NA BA CA1 PA2 ∧ wd D A M s.heap H locs := ⟨_, _, rfl, CSx.setZ hC _, hW⟩
                refine W.widen (k := 9) (n := 56) (by decide) (by decide) ?_
                exact wr_iret C hW hr hlk (⟨_, _, _, _, _, _, _, _, hC, by rw [xAC, if_pos ⟨c_5, c_13⟩, hcli1, hcli2, if_pos ⟨c_44, hz_68⟩, if_pos c_74]; have e : xE1 E nn nc np i1 i2 t = E_1 := (by rw [eE_1, hz_102]; rfl); unfold xNewC; rw [e, ← eJ_1, ← eJ_2, ← eE_2, ← enp]; exact ⟨rfl, rfl, rfl, by rw [ew_1, ew_2, enp], rfl, by rw [show pcN E_1 J_1 nc = k by omega]; exact hcs⟩⟩) dX4_addCurve_189
              · have c_158 := cle_f (a := np2) (b := i) c_158 (by omega) (by omega)
                refine lv_aload_n hx hb dX4_addCurve_161 rfl (lv_at hl 1 rfl) ?_
                refine lv_aload_n hx hb dX4_addCurve_162 rfl (lv_at hl 1 rfl) ?_
                refine gf_X4_33 C hW.rd (CSx.z hC) rfl dX4_addCurve_163 ?_
                refine lv_iload hx hb dX4_addCurve_166 (lv_at hl 0 rfl) ?_
                obtain ⟨a_168, c_p168, h_p168, b1_p168, b2_p168, ga_168, gp_168, gl_168, gc_168, gh_168⟩ := CSx.part hC i (by omega)
                obtain ⟨fx_h168, fy_h168, h1_h168, h2_h168, h3_h168, h4_h168, h5_h168, h6_h168⟩ := gh_168
                refine r_aaldN (k := i) C hW.rd 6 (CSx.pa hC) rfl (by omega) (by decide) rfl ga_168 dX4_addCurve_168 ?_
                refine wr_goV hW (wr_V (As := [.ref a_168]) (rest := []) C hW st_X4_92 (c_X4_choose l D cs A _ Z lab2 ad w_2 E_3 J_2 nn nb (nc + 1) np2 NA BA CA1 PA2 hC nm nw hnm2 hnw2 (by omega) (by omega) hnp2 (by omega) (np + k) (by omega) a_168 (by rw [← hik]; exact ga_168)) (CSx.z hC) rfl rfl ⟨rfl, rfl, Nat.le_of_ble_eq_true rfl, Nat.le_of_ble_eq_true rfl⟩ rfl hl.1 rfl (Nat.le_of_ble_eq_true rfl) dX4_addCurve_169 ⟨Nat.le_of_ble_eq_true rfl, Nat.le_of_ble_eq_true rfl⟩) (fun M_169 H locs h_169 hW => ?_)
                obtain ⟨E_4, hC, hch⟩ := h_169
                refine lv_iinc (v := nI (i + 1)) (lv' := [(8, .int (nI (i + 1))), (0, .ref Z)]) hx hb dX4_addCurve_172 hl (k := 0) rfl (by exact tn_add rfl rfl) (by decide) rfl (fun ls hl => ?_)
                refine lv_goto (tgt := 152) hx hb dX4_addCurve_175 (by decide) ?_
                exact ih_152 ((i + 1), (k + 1), E_4, _, _, _, _) ⟨by omega, by omega, ⟨_, hcs, hch⟩, hC, hW, lv_sub hl [0, 1] rfl⟩ (by show np2 - (i + 1) < np2 - i; omega)
            · refine lv_iload_n hx hb dX4_addCurve_81 rfl (lv_at hl 5 rfl) ?_
              refine lv_if_eq (tgt := 94) hx hb dX4_addCurve_82 (by decide) (fun c_82 => ?_) (fun c_82 => ?_)
              · refine lv_aload_n hx hb dX4_addCurve_94 rfl (lv_at hl 2 rfl) ?_
                refine lv_aload hx hb dX4_addCurve_95 (lv_at hl 1 rfl) ?_
                refine lv_aload hx hb dX4_addCurve_97 (lv_at hl 0 rfl) ?_
                refine ro_goI (ro_V (As := [.ref a_25, .ref a_33]) (rest := []) C hW.rd st_X4_192 (c_X4_slurSide l D cs _ Z lab ad w E J nn nb nc np NA BA CA PA hC hnn (by omega) a_25 a_33 (E 0 i1) (E 0 i2) gn_25 gn_33) (CSx.z hC) rfl rfl ⟨rfl, rfl, Nat.le_of_ble_eq_true rfl, Nat.le_of_ble_eq_true rfl⟩ rfl hl.1 rfl (Nat.le_of_ble_eq_true rfl) dX4_addCurve_99 ⟨Nat.le_of_ble_eq_true rfl, Nat.le_of_ble_eq_true rfl⟩) (fun r_99 h_99 => ?_)
                exact J_102 _ (by rw [xSide, if_pos c_82]; exact h_99)
              · refine lv_aload_n hx hb dX4_addCurve_85 rfl (lv_at hl 2 rfl) ?_
                refine lv_aload hx hb dX4_addCurve_86 (lv_at hl 1 rfl) ?_
                refine ro_goI (ro_V (As := [.ref a_25]) (rest := []) C hW.rd st_X4_188 (c_X4_tieSide l D cs _ Z lab ad w E J nn nb nc np NA BA CA PA hC hnn (by omega) a_25 (E 0 i1) gn_25) (CSx.z hC) rfl rfl ⟨rfl, rfl, Nat.le_of_ble_eq_true rfl, Nat.le_of_ble_eq_true rfl⟩ rfl hl.1 rfl (Nat.le_of_ble_eq_true rfl) dX4_addCurve_88 ⟨Nat.le_of_ble_eq_true rfl, Nat.le_of_ble_eq_true rfl⟩) (fun r_88 h_88 => ?_)
                refine lv_goto (tgt := 102) hx hb dX4_addCurve_91 (by decide) ?_
                exact J_102 _ (by rw [xSide, if_neg c_82]; exact h_88)
          · have c_74 := clt_f (a := nc) (b := 40) c_74 (by omega) (by omega)
            refine lv_sipush (v := (-9004)) hx hb dX4_addCurve_77 (by decide) ?_
            refine W.widen (k := 9) (n := 56) (by decide) (by decide) ?_
            exact wr_iret C hW hr hlk (⟨_, _, _, _, _, _, _, _, hC, by rw [xAC, if_pos ⟨c_5, c_13⟩, hcli1, hcli2, if_pos ⟨c_44, hz_68⟩, if_neg (by omega)]⟩) dX4_addCurve_80
        · refine lv_iload_n hx hb dX4_addCurve_47 rfl (lv_at hl 5 rfl) ?_
          refine lv_if_eq (tgt := 68) hx hb dX4_addCurve_48 (by decide) (fun c_48 => ?_) (fun c_48 => ?_)
          · exact J_68 (Or.inl c_48)
          · refine lv_aload hx hb dX4_addCurve_51 (lv_at hl 1 rfl) ?_
            refine gf_X4_185 C hW.rd gn_25 rfl dX4_addCurve_53 ?_
            refine lv_aload hx hb dX4_addCurve_56 (lv_at hl 0 rfl) ?_
            refine gf_X4_185 C hW.rd gn_33 rfl dX4_addCurve_58 ?_
            refine lv_icmp_eq (tgt := 68) hx hb dX4_addCurve_61 (by decide) (fun c_61 => ?_) (fun c_61 => ?_)
            · exact J_68 (Or.inr c_61)
            · refine lv_sipush (v := (-9003)) hx hb dX4_addCurve_64 (by decide) ?_
              refine W.widen (k := 9) (n := 56) (by decide) (by decide) ?_
              exact wr_iret C hW hr hlk (⟨_, _, _, _, _, _, _, _, hC, by rw [xAC, if_pos ⟨c_5, c_13⟩, hcli1, hcli2, if_neg (fun h => h.2.elim c_48 c_61)]⟩) dX4_addCurve_67
    · have c_13 : ¬ (inB p2 0 (w 7 - 1) = true) := bz0 h_10 c_13
      refine lv_sipush (v := (-9001)) hx hb dX4_addCurve_16 (by decide) ?_
      refine W.widen (k := 9) (n := 56) (by decide) (by decide) ?_
      exact wr_iret C hW hr hlk (⟨_, _, _, _, _, _, _, _, hC, by rw [xAC, if_neg (fun h => c_13 h.2)]⟩) dX4_addCurve_19

set_option maxHeartbeats 4000000 in
set_option maxRecDepth 100000 in
theorem c_X4_tie (l : Launch) (D : va_G) (cs : Nat → ClassId) (A : Nat → Prop) (M : wM) (Z : Nat) (lab ad : Nat → Nat) (w : Nat → Int32) (E : Nat → Nat → Nat → Int32) (J : Nat → Nat → Nat) (nn nb nc np : Nat) (NA BA CA PA : Nat → Option Nat) (hC : CSx cs lab M Z ad w E J nn nb nc np NA BA CA PA) (hnn : w 7 = nI nn) (hn60 : nn ≤ 60) (hnc : w 10 = nI nc) (hc40 : nc ≤ 40) (hpb : np ≤ 2 * nc) (nm nw : Nat) (hnm : w 8 = nI nm) (hnw : w 9 = nI nw) (hb9 : nb = nm + nw) (hb52 : nb ≤ 52) (hnp : w 11 = nI np) (hp80 : np ≤ 80) (hLN : ∀ i, i < nn → E 0 i 1 = nI (E 0 i 1).toNatClampNeg ∧ (E 0 i 1).toNatClampNeg < 4) (p1 p2 : Int32) : Met l yX4_tie (mw yX4_tie cX4_tie 3 (some .int)) { frames := 6, cells := 9, slots := 56, locals := 149 } (wrP D cs A M [.ref Z, .int p1, .int p2]) (va_Qi (fun r M' => ∃ lab' w' E' J' nc' np' CA' PA', CSx cs lab' M' Z ad w' E' J' nn nb nc' np' NA BA CA' PA' ∧ xAC w E J nn nb nc np p1 p2 1 r w' E' J' nc' np') (wrB D A) A) 9 56 A := by
  refine wr_met rfl (Nat.le_of_ble_eq_true rfl) ?_
  intro p e s m below meth c ls C hW hr hlk hini hl
  have C : kx D cs p m c cX4_tie 3 s _ RX4 := C
  have hx := C.1.1
  have hb := C.1.2.1
  have hl : lv_has ls 3 [(0, .ref Z), (1, .int p1), (2, .int p2)] := hl
  refine lv_aload_n hx hb dX4_tie_0 rfl (lv_at hl 0 rfl) ?_
  refine lv_iload_n hx hb dX4_tie_1 rfl (lv_at hl 1 rfl) ?_
  refine lv_iload_n hx hb dX4_tie_2 rfl (lv_at hl 2 rfl) ?_
  refine lv_iconst (v := 1) hx hb dX4_tie_3 (by decide) ?_
  refine wr_goI hW (wr_V (As := [.int p1, .int p2, .int 1]) (rest := []) C hW st_X4_82 (c_X4_addCurve l D cs A _ Z lab ad w E J nn nb nc np NA BA CA PA hC hnn hn60 hnc hc40 hpb nm nw hnm hnw hb9 hb52 hnp hp80 hLN p1 p2 1 (Or.inr rfl)) (CSx.z hC) rfl rfl ⟨rfl, rfl, Nat.le_of_ble_eq_true rfl, Nat.le_of_ble_eq_true rfl⟩ rfl hl.1 rfl (Nat.le_of_ble_eq_true rfl) dX4_tie_4 ⟨Nat.le_of_ble_eq_true rfl, Nat.le_of_ble_eq_true rfl⟩) (fun r_4 M_4 H locs h_4 hW => ?_)
  refine W.widen (k := 9) (n := 56) (by decide) (by decide) ?_
  exact wr_iret C hW hr hlk h_4 dX4_tie_7

set_option maxHeartbeats 4000000 in
set_option maxRecDepth 100000 in
theorem c_X4_slur (l : Launch) (D : va_G) (cs : Nat → ClassId) (A : Nat → Prop) (M : wM) (Z : Nat) (lab ad : Nat → Nat) (w : Nat → Int32) (E : Nat → Nat → Nat → Int32) (J : Nat → Nat → Nat) (nn nb nc np : Nat) (NA BA CA PA : Nat → Option Nat) (hC : CSx cs lab M Z ad w E J nn nb nc np NA BA CA PA) (hnn : w 7 = nI nn) (hn60 : nn ≤ 60) (hnc : w 10 = nI nc) (hc40 : nc ≤ 40) (hpb : np ≤ 2 * nc) (nm nw : Nat) (hnm : w 8 = nI nm) (hnw : w 9 = nI nw) (hb9 : nb = nm + nw) (hb52 : nb ≤ 52) (hnp : w 11 = nI np) (hp80 : np ≤ 80) (hLN : ∀ i, i < nn → E 0 i 1 = nI (E 0 i 1).toNatClampNeg ∧ (E 0 i 1).toNatClampNeg < 4) (p1 p2 : Int32) : Met l yX4_slur (mw yX4_slur cX4_slur 3 (some .int)) { frames := 6, cells := 9, slots := 56, locals := 149 } (wrP D cs A M [.ref Z, .int p1, .int p2]) (va_Qi (fun r M' => ∃ lab' w' E' J' nc' np' CA' PA', CSx cs lab' M' Z ad w' E' J' nn nb nc' np' NA BA CA' PA' ∧ xAC w E J nn nb nc np p1 p2 0 r w' E' J' nc' np') (wrB D A) A) 9 56 A := by
  refine wr_met rfl (Nat.le_of_ble_eq_true rfl) ?_
  intro p e s m below meth c ls C hW hr hlk hini hl
  have C : kx D cs p m c cX4_slur 3 s _ RX4 := C
  have hx := C.1.1
  have hb := C.1.2.1
  have hl : lv_has ls 3 [(0, .ref Z), (1, .int p1), (2, .int p2)] := hl
  refine lv_aload_n hx hb dX4_slur_0 rfl (lv_at hl 0 rfl) ?_
  refine lv_iload_n hx hb dX4_slur_1 rfl (lv_at hl 1 rfl) ?_
  refine lv_iload_n hx hb dX4_slur_2 rfl (lv_at hl 2 rfl) ?_
  refine lv_iconst (v := 0) hx hb dX4_slur_3 (by decide) ?_
  refine wr_goI hW (wr_V (As := [.int p1, .int p2, .int 0]) (rest := []) C hW st_X4_82 (c_X4_addCurve l D cs A _ Z lab ad w E J nn nb nc np NA BA CA PA hC hnn hn60 hnc hc40 hpb nm nw hnm hnw hb9 hb52 hnp hp80 hLN p1 p2 0 (Or.inl rfl)) (CSx.z hC) rfl rfl ⟨rfl, rfl, Nat.le_of_ble_eq_true rfl, Nat.le_of_ble_eq_true rfl⟩ rfl hl.1 rfl (Nat.le_of_ble_eq_true rfl) dX4_slur_4 ⟨Nat.le_of_ble_eq_true rfl, Nat.le_of_ble_eq_true rfl⟩) (fun r_4 M_4 H locs h_4 hW => ?_)
  refine W.widen (k := 9) (n := 56) (by decide) (by decide) ?_
  exact wr_iret C hW hr hlk h_4 dX4_slur_7


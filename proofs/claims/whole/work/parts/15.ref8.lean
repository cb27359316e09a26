def agS (nm nw nc k : Nat) (s : (Nat → Nat → Int32) × Nat) : (Nat → Nat → Int32) × Nat := (rChoose s.1 nm nw nc k, s.2 + (if rChoose s.1 nm nw nc k 30 k = s.1 30 k then 0 else 1))
def agI (nm nw nc c0 : Nat) (s : (Nat → Nat → Int32) × Nat) : Nat → (Nat → Nat → Int32) × Nat
  | 0 => s
  | p + 1 => agS nm nw nc (2 * c0 + p) (agI nm nw nc c0 s p)
def agO (F : Nat → Nat → Int32) (nm nw nc : Nat) (pm : Nat → Nat) : Nat → (Nat → Nat → Int32) × Nat
  | 0 => (F, 0)
  | c + 1 => agI nm nw nc c (agO F nm nw nc pm c) (pm c)
set_option maxHeartbeats 4000000 in
set_option maxRecDepth 100000 in
theorem c_X5_again (l : Launch) (D : va_G) (cs : Nat → ClassId) (A : Nat → Prop) (M : wM) (X : Nat) (ad : Nat → Nat) (v : Nat → Int32) (F : Nat → Nat → Int32) (G : Nat → Nat → Int64) (hS : RS cs M X ad v F G) (nm nw nc : Nat) (hnm : v 7 = nI nm) (hm40 : nm ≤ 40) (hnw : v 13 = nI nw) (hw12 : nw ≤ 12) (hnc : v 19 = nI nc) (hc40 : nc ≤ 40) (pm : Nat → Nat) (hpm : ∀ c, c < nc → pm c ≤ 2 ∧ F 24 c = nI (pm c))  : Met l yX5_again (mw yX5_again cX5_again 5 (some .int)) { frames := 6, cells := 0, slots := 0, locals := 164 } (wrP D cs A M [.ref X]) (va_Qi (fun r M' => ∃ F' G', RS cs M' X ad v F' G' ∧ F' = (agO F nm nw nc pm nc).1 ∧ r = nI (agO F nm nw nc pm nc).2) (wrB D A) A) 0 0 A := by
  refine wr_met rfl (Nat.le_of_ble_eq_true rfl) ?_
  intro p e s m below meth c ls C hW hr hlk hini hl
  have C : kx D cs p m c cX5_again 5 s _ RX5 := C
  have hx := C.1.1
  have hb := C.1.2.1
  have hl : lv_has ls 5 [(0, .ref X)] := hl
  refine lv_iconst (v := 0) hx hb dX5_again_0 (by decide) ?_
  refine lv_istore_n (lv' := [(1, .int 0), (0, .ref X)]) hx hb dX5_again_1 rfl hl (by decide) rfl (fun ls hl => ?_)
  refine lv_iconst (v := 0) hx hb dX5_again_2 (by decide) ?_
  refine lv_istore_n (lv' := [(2, .int 0), (1, .int 0), (0, .ref X)]) hx hb dX5_again_3 rfl hl (by decide) rfl (fun ls hl => ?_)
  refine W.loopW (σ := Nat × Nat × (Nat → Nat → Int32) × (Nat → Nat → Int64) × Heap × List Loc × wM × Array Slot) (fun ⟨c0, n, F1, G1, H, locs, M, ls⟩ => F0 m 4 ls []) (fun ⟨c0, n, F1, G1, H, locs, M, ls⟩ => H) (fun ⟨c0, n, F1, G1, H, locs, M, ls⟩ => locs) (fun ⟨c0, n, F1, G1, H, locs, M, ls⟩ => (c0 ≤ nc) ∧ ((F1, n) = agO F nm nw nc pm c0) ∧ (F1 24 = F 24) ∧ (RS cs M X ad v F1 G1) ∧ wd D A M s.heap H locs ∧ lv_has ls 5 [(2, .int (nI c0)), (1, .int (nI n)), (0, .ref X)]) (fun ⟨c0, n, F1, G1, H, locs, M, ls⟩ => nc - c0) ?_ (0, 0, F, G, _, _, _, _) ⟨by omega, rfl, rfl, hS, hW, lv_sub hl [0, 1, 2] rfl⟩ rfl rfl rfl
  intro ⟨c0, n, F1, G1, H, locs, M, ls⟩ ⟨hc0, ea, e24, hS, hW, hl⟩ ih_4
  show W _ _ _ _ _ _ _ _ _ _ H locs _ _ _ (F0 m 4 ls [])
  have hl : lv_has ls 5 [(2, .int (nI c0)), (1, .int (nI n)), (0, .ref X)] := hl
  refine lv_iload_n hx hb dX5_again_4 rfl (lv_at hl 0 rfl) ?_
  refine lv_aload_n hx hb dX5_again_5 rfl (lv_at hl 2 rfl) ?_
  refine gf_X5_136 C hW.rd hS.1 rfl dX5_again_6 ?_
  refine top_eq (y := nI nc) hnc ?_
  refine lv_icmp_ge (tgt := 77) hx hb dX5_again_9 (by decide) (fun c_9 => ?_) (fun c_9 => ?_)
  · have c_9 := cle_t (a := nc) (b := c0) c_9 (by omega) (by omega)
    refine lv_iload_n hx hb dX5_again_77 rfl (lv_at hl 1 rfl) ?_
    exact wr_iret C hW hr hlk (⟨_, _, hS, by have e : c0 = nc := (by omega); subst e; rw [← ea], by have e : c0 = nc := (by omega); subst e; rw [← ea]⟩) dX5_again_78
  · have c_9 := cle_f (a := nc) (b := c0) c_9 (by omega) (by omega)
    refine lv_iconst (v := 0) hx hb dX5_again_12 (by decide) ?_
    refine lv_istore_n (lv' := [(3, .int 0), (2, .int (nI c0)), (1, .int (nI n)), (0, .ref X)]) hx hb dX5_again_13 rfl hl (by decide) rfl (fun ls hl => ?_)
    refine W.loopW (σ := Nat × Nat × (Nat → Nat → Int32) × (Nat → Nat → Int64) × Heap × List Loc × wM × Array Slot) (fun ⟨p0, n2, F2, G2, H, locs, M, ls⟩ => F0 m 14 ls []) (fun ⟨p0, n2, F2, G2, H, locs, M, ls⟩ => H) (fun ⟨p0, n2, F2, G2, H, locs, M, ls⟩ => locs) (fun ⟨p0, n2, F2, G2, H, locs, M, ls⟩ => (p0 ≤ pm c0) ∧ ((F2, n2) = agI nm nw nc c0 (F1, n) p0) ∧ (F2 24 = F 24) ∧ (RS cs M X ad v F2 G2) ∧ wd D A M s.heap H locs ∧ lv_has ls 5 [(3, .int (nI p0)), (2, .int (nI c0)), (1, .int (nI n2)), (0, .ref X)]) (fun ⟨p0, n2, F2, G2, H, locs, M, ls⟩ => pm c0 - p0) ?_ (0, n, F1, G1, _, _, _, _) ⟨by omega, rfl, e24, hS, hW, lv_sub hl [0, 1, 2, 3] rfl⟩ rfl rfl rfl
    intro ⟨p0, n2, F2, G2, H, locs, M, ls⟩ ⟨hp0, eb, e24b, hS, hW, hl⟩ ih_14
    show W _ _ _ _ _ _ _ _ _ _ H locs _ _ _ (F0 m 14 ls [])
    have hl : lv_has ls 5 [(3, .int (nI p0)), (2, .int (nI c0)), (1, .int (nI n2)), (0, .ref X)] := hl
    have hp2 := (hpm c0 c_9).1
    refine lv_iload_n hx hb dX5_again_14 rfl (lv_at hl 0 rfl) ?_
    refine lv_aload_n hx hb dX5_again_15 rfl (lv_at hl 3 rfl) ?_
    refine gf_X5_68 C hW.rd hS.1 rfl dX5_again_16 ?_
    refine lv_iload_n hx hb dX5_again_19 rfl (lv_at hl 1 rfl) ?_
    refine r_ialdN (k := c0) C hW.rd (RS.i hS 24 40 rfl rfl) (by omega) (by decide) rfl dX5_again_20 ?_
    refine top_eq (y := nI (pm c0)) (by rw [e24b]; exact (hpm c0 c_9).2) ?_
    refine lv_icmp_ge (tgt := 71) hx hb dX5_again_21 (by decide) (fun c_21 => ?_) (fun c_21 => ?_)
    · have c_21 := cle_t (a := (pm c0)) (b := p0) c_21 (by omega) (by omega)
      refine lv_iinc (v := nI (c0 + 1)) (lv' := [(2, .int (nI (c0 + 1))), (3, .int (nI p0)), (1, .int (nI n2)), (0, .ref X)]) hx hb dX5_again_71 hl (k := 1) rfl (by exact tn_add rfl rfl) (by decide) rfl (fun ls hl => ?_)
      refine lv_goto (tgt := 4) hx hb dX5_again_74 (by decide) ?_
      exact ih_4 ((c0 + 1), n2, F2, G2, _, _, _, _) ⟨by omega, by rw [agO, ← ea, show pm c0 = p0 by omega]; exact eb, e24b, hS, hW, lv_sub hl [0, 2, 3] rfl⟩ (by show nc - (c0 + 1) < nc - c0; omega)
    · have c_21 := cle_f (a := (pm c0)) (b := p0) c_21 (by omega) (by omega)
      refine lv_aload_n hx hb dX5_again_24 rfl (lv_at hl 3 rfl) ?_
      refine gf_X5_86 C hW.rd hS.1 rfl dX5_again_25 ?_
      refine lv_iconst (v := 2) hx hb dX5_again_28 (by decide) ?_
      refine lv_iload_n hx hb dX5_again_29 rfl (lv_at hl 1 rfl) ?_
      refine lv_imul hx hb dX5_again_30 ?_
      refine top_eq (y := nI (2 * c0)) (tn_mul rfl rfl) ?_
      refine lv_iload_n hx hb dX5_again_31 rfl (lv_at hl 0 rfl) ?_
      refine lv_iadd hx hb dX5_again_32 ?_
      refine top_eq (y := nI ((2 * c0) + p0)) (tn_add rfl rfl) ?_
      refine r_ialdN (k := ((2 * c0) + p0)) C hW.rd (RS.i hS 30 80 rfl rfl) (by omega) (by decide) rfl dX5_again_33 ?_
      refine lv_topi (fun x_34 ex_34 => ?_)
      refine lv_istore (lv' := [(4, .int x_34), (3, .int (nI p0)), (2, .int (nI c0)), (1, .int (nI n2)), (0, .ref X)]) hx hb dX5_again_34 hl (by decide) rfl (fun ls hl => ?_)
      refine lv_aload_n hx hb dX5_again_36 rfl (lv_at hl 4 rfl) ?_
      refine lv_iload_n hx hb dX5_again_37 rfl (lv_at hl 2 rfl) ?_
      refine lv_iload_n hx hb dX5_again_38 rfl (lv_at hl 1 rfl) ?_
      refine wr_goV hW (wr_V (As := [.int (nI c0), .int (nI p0)]) (rest := []) C hW st_X5_143 (c_X5_choose l D cs A _ X ad v F2 G2 hS nm nw nc hnm (by omega) hnw (by omega) hnc (by omega) c0 p0 (by omega) (by omega)) hS.1 rfl rfl ⟨rfl, rfl, Nat.le_of_ble_eq_true rfl, Nat.le_of_ble_eq_true rfl⟩ rfl hl.1 rfl (Nat.le_of_ble_eq_true rfl) dX5_again_39 ⟨Nat.le_of_ble_eq_true rfl, Nat.le_of_ble_eq_true rfl⟩) (fun M_39 H locs h_39 hW => ?_)
      obtain ⟨F_1, G_1, hS, eF_1⟩ := h_39
      refine lv_iload_n hx hb dX5_again_42 rfl (lv_at hl 3 rfl) ?_
      refine W.cut (fun z => z = nI (if F_1 30 (2 * c0 + p0) = x_34 then 0 else 1)) (fun z => F0 m 63 ls (.int z :: [.int (nI n2)])) (fun z_63 hz_63 => ?_) (fun J_63 => ?_)
      · subst hz_63
        refine lv_iadd hx hb dX5_again_63 ?_
        refine top_eq (y := nI (n2 + (if F_1 30 (2 * c0 + p0) = x_34 then 0 else 1))) (tn_add rfl rfl) ?_
        refine lv_istore_n (lv' := [(1, .int (nI (n2 + (if F_1 30 (2 * c0 + p0) = x_34 then 0 else 1)))), (4, .int x_34), (3, .int (nI p0)), (2, .int (nI c0)), (0, .ref X)]) hx hb dX5_again_64 rfl hl (by decide) rfl (fun ls hl => ?_)
        refine lv_iinc (v := nI (p0 + 1)) (lv' := [(3, .int (nI (p0 + 1))), (1, .int (nI (n2 + (if F_1 30 (2 * c0 + p0) = x_34 then 0 else 1)))), (4, .int x_34), (2, .int (nI c0)), (0, .ref X)]) hx hb dX5_again_65 hl (k := 2) rfl (by exact tn_add rfl rfl) (by decide) rfl (fun ls hl => ?_)
        refine lv_goto (tgt := 14) hx hb dX5_again_68 (by decide) ?_
        exact ih_14 ((p0 + 1), (n2 + (if F_1 30 (2 * c0 + p0) = x_34 then 0 else 1)), F_1, G_1, _, _, _, _) ⟨by omega, by rw [agI, ← eb]; subst eF_1; subst ex_34; rfl, by subst eF_1; rw [rChoose_ne _ _ _ _ _ (by decide) (by decide)]; exact e24b, hS, hW, lv_sub hl [0, 3, 1, 4] rfl⟩ (by show pm c0 - (p0 + 1) < pm c0 - p0; omega)
      · refine lv_aload_n hx hb dX5_again_43 rfl (lv_at hl 4 rfl) ?_
        refine gf_X5_86 C hW.rd hS.1 rfl dX5_again_44 ?_
        refine lv_iconst (v := 2) hx hb dX5_again_47 (by decide) ?_
        refine lv_iload_n hx hb dX5_again_48 rfl (lv_at hl 2 rfl) ?_
        refine lv_imul hx hb dX5_again_49 ?_
        refine top_eq (y := nI (2 * c0)) (tn_mul rfl rfl) ?_
        refine lv_iload_n hx hb dX5_again_50 rfl (lv_at hl 1 rfl) ?_
        refine lv_iadd hx hb dX5_again_51 ?_
        refine top_eq (y := nI ((2 * c0) + p0)) (tn_add rfl rfl) ?_
        refine r_ialdN (k := ((2 * c0) + p0)) C hW.rd (RS.i hS 30 80 rfl rfl) (by omega) (by decide) rfl dX5_again_52 ?_
        refine lv_iload hx hb dX5_again_53 (lv_at hl 0 rfl) ?_
        refine lv_icmp_ne (tgt := 62) hx hb dX5_again_55 (by decide) (fun c_55 => ?_) (fun c_55 => ?_)
        · refine lv_iconst (v := 1) hx hb dX5_again_62 (by decide) ?_
          exact J_63 _ (by rw [if_neg c_55]; rfl)
        · refine lv_iconst (v := 0) hx hb dX5_again_58 (by decide) ?_
          refine lv_goto (tgt := 63) hx hb dX5_again_59 (by decide) ?_
          exact J_63 _ (by rw [if_pos c_55]; rfl)

def rCurve (v : Nat → Int32) (F : Nat → Nat → Int32) (x w : Int32) : Int32 := if inB x 0 (v 19 - 1) = true then (if w.toInt = 0 then F 20 x.toNatClampNeg else if w.toInt = 1 then F 21 x.toNatClampNeg else if w.toInt = 2 then F 23 x.toNatClampNeg else if w.toInt = 3 then F 24 x.toNatClampNeg else if w.toInt = 4 then (if F 22 x.toNatClampNeg = 0 then 0 else 1) else -9002) else -9001
set_option maxHeartbeats 4000000 in
set_option maxRecDepth 100000 in
theorem c_X5_curve (l : Launch) (D : va_G) (cs : Nat → ClassId) (M : wM) (X : Nat) (ad : Nat → Nat) (v : Nat → Int32) (F : Nat → Nat → Int32) (G : Nat → Nat → Int64) (hS : RS cs M X ad v F G) (nc : Nat) (hnc : v 19 = nI nc) (hc40 : nc ≤ 40) (p1 w : Int32) : Met l yX5_curve (mw yX5_curve cX5_curve 3 (some .int)) { frames := 2, cells := 0, slots := 0, locals := 43 } (roP D cs M [.ref X, .int p1, .int w]) (vp_Si (fun r => r = rCurve v F p1 w)) 0 0 noA := by
  refine ro_met rfl (Nat.le_of_ble_eq_true rfl) ?_
  intro p e s m below meth c ls C hR hr hlk hl
  have C : kx D cs p m c cX5_curve 3 s _ RX5 := C
  have hx := C.1.1
  have hb := C.1.2.1
  have hl : lv_has ls 3 [(0, .ref X), (1, .int p1), (2, .int w)] := hl
  refine lv_aload_n hx hb dX5_curve_0 rfl (lv_at hl 0 rfl) ?_
  refine lv_iload_n hx hb dX5_curve_1 rfl (lv_at hl 1 rfl) ?_
  refine ro_goI (ro_V (As := [.int p1]) (rest := []) C hR st_X5_224 (c_X5_isCurve l D cs _ X ad v F G hS p1) hS.1 rfl rfl ⟨rfl, rfl, Nat.le_of_ble_eq_true rfl, Nat.le_of_ble_eq_true rfl⟩ rfl hl.1 rfl (Nat.le_of_ble_eq_true rfl) dX5_curve_2 ⟨Nat.le_of_ble_eq_true rfl, Nat.le_of_ble_eq_true rfl⟩) (fun r_2 h_2 => ?_)
  refine lv_if_ne (tgt := 12) hx hb dX5_curve_5 (by decide) (fun c_5 => ?_) (fun c_5 => ?_)
  · have c_5 : inB p1 0 (v 19 - 1) = true := bz1 h_2 c_5
    obtain ⟨j, hjj, rfl⟩ := inP_nat c_5 hnc (by omega)
    have hclj := nI_clamp (n := j) (by omega)
    refine lv_iload_n hx hb dX5_curve_12 rfl (lv_at hl 2 rfl) ?_
    rcases sw_cases w 4 with h_13 | ⟨k_13, hk_13, e_13⟩
    · refine sw_out (tgt := 91) C h_13 dX5_curve_13 (by decide) ?_
      refine lv_sipush (v := (-9002)) hx hb dX5_curve_91 (by decide) ?_
      exact ro_iret C hr hlk (by rw [rCurve, if_pos c_5]; rw [if_neg (by omega), if_neg (by omega), if_neg (by omega), if_neg (by omega), if_neg (by omega)]) dX5_curve_94
    · match k_13, hk_13, e_13 with
      | 0, _, e_13 =>
        refine sw_in (tgt := 48) C 0 e_13 (by decide) (by decide) dX5_curve_13 rfl (by decide) ?_
        have hsw : w.toInt = 0 := by rw [e_13]; rfl
        refine lv_aload_n hx hb dX5_curve_48 rfl (lv_at hl 0 rfl) ?_
        refine gf_X5_56 C hR hS.1 rfl dX5_curve_49 ?_
        refine lv_iload_n hx hb dX5_curve_52 rfl (lv_at hl 1 rfl) ?_
        refine r_ialdN (k := j) C hR (RS.i hS 20 40 rfl rfl) (by omega) (by decide) rfl dX5_curve_53 ?_
        exact ro_iret C hr hlk (by simp [rCurve, c_5, hsw, hclj]) dX5_curve_54
      | 1, _, e_13 =>
        refine sw_in (tgt := 55) C 1 e_13 (by decide) (by decide) dX5_curve_13 rfl (by decide) ?_
        have hsw : w.toInt = 1 := by rw [e_13]; rfl
        refine lv_aload_n hx hb dX5_curve_55 rfl (lv_at hl 0 rfl) ?_
        refine gf_X5_59 C hR hS.1 rfl dX5_curve_56 ?_
        refine lv_iload_n hx hb dX5_curve_59 rfl (lv_at hl 1 rfl) ?_
        refine r_ialdN (k := j) C hR (RS.i hS 21 40 rfl rfl) (by omega) (by decide) rfl dX5_curve_60 ?_
        exact ro_iret C hr hlk (by simp [rCurve, c_5, hsw, hclj]) dX5_curve_61
      | 2, _, e_13 =>
        refine sw_in (tgt := 62) C 2 e_13 (by decide) (by decide) dX5_curve_13 rfl (by decide) ?_
        have hsw : w.toInt = 2 := by rw [e_13]; rfl
        refine lv_aload_n hx hb dX5_curve_62 rfl (lv_at hl 0 rfl) ?_
        refine gf_X5_65 C hR hS.1 rfl dX5_curve_63 ?_
        refine lv_iload_n hx hb dX5_curve_66 rfl (lv_at hl 1 rfl) ?_
        refine r_ialdN (k := j) C hR (RS.i hS 23 40 rfl rfl) (by omega) (by decide) rfl dX5_curve_67 ?_
        exact ro_iret C hr hlk (by simp [rCurve, c_5, hsw, hclj]) dX5_curve_68
      | 3, _, e_13 =>
        refine sw_in (tgt := 69) C 3 e_13 (by decide) (by decide) dX5_curve_13 rfl (by decide) ?_
        have hsw : w.toInt = 3 := by rw [e_13]; rfl
        refine lv_aload_n hx hb dX5_curve_69 rfl (lv_at hl 0 rfl) ?_
        refine gf_X5_68 C hR hS.1 rfl dX5_curve_70 ?_
        refine lv_iload_n hx hb dX5_curve_73 rfl (lv_at hl 1 rfl) ?_
        refine r_ialdN (k := j) C hR (RS.i hS 24 40 rfl rfl) (by omega) (by decide) rfl dX5_curve_74 ?_
        exact ro_iret C hr hlk (by simp [rCurve, c_5, hsw, hclj]) dX5_curve_75
      | 4, _, e_13 =>
        refine sw_in (tgt := 76) C 4 e_13 (by decide) (by decide) dX5_curve_13 rfl (by decide) ?_
        have hsw : w.toInt = 4 := by rw [e_13]; rfl
        refine lv_aload_n hx hb dX5_curve_76 rfl (lv_at hl 0 rfl) ?_
        refine gf_X5_62 C hR hS.1 rfl dX5_curve_77 ?_
        refine lv_iload_n hx hb dX5_curve_80 rfl (lv_at hl 1 rfl) ?_
        refine r_zaldN (k := j) C hR (RS.z hS 22 40 rfl rfl) (by omega) (by decide) rfl dX5_curve_81 ?_
        refine lv_if_eq (tgt := 89) hx hb dX5_curve_82 (by decide) (fun c_82 => ?_) (fun c_82 => ?_)
        · refine lv_iconst (v := 0) hx hb dX5_curve_89 (by decide) ?_
          exact ro_iret C hr hlk (by simp [rCurve, c_5, hsw, c_82, hclj]) dX5_curve_90
        · refine lv_iconst (v := 1) hx hb dX5_curve_85 (by decide) ?_
          refine lv_goto (tgt := 90) hx hb dX5_curve_86 (by decide) ?_
          exact ro_iret C hr hlk (by simp [rCurve, c_5, hsw, c_82, hclj]) dX5_curve_90
      | k + 5, hk_13, _ => exact absurd hk_13 (by omega)
  · have c_5 : ¬ (inB p1 0 (v 19 - 1) = true) := bz0 h_2 c_5
    refine lv_sipush (v := (-9001)) hx hb dX5_curve_8 (by decide) ?_
    exact ro_iret C hr hlk (by simp [rCurve, c_5]) dX5_curve_11

theorem rPart_nat {v : Nat → Int32} {F : Nat → Nat → Int32} {x y : Int32} {nc : Nat} {pm : Nat → Nat} (h : rPart v F x y = true) (hnc : v 19 = nI nc) (hc : nc ≤ 40) (hpm : ∀ c, c < nc → pm c ≤ 2 ∧ F 24 c = nI (pm c)) : ∃ c0 p0, c0 < nc ∧ p0 < pm c0 ∧ p0 < 2 ∧ x = nI c0 ∧ y = nI p0 := by
  unfold rPart at h
  rw [Bool.and_eq_true] at h
  obtain ⟨h1, h2⟩ := h
  obtain ⟨c0, hc0, rfl⟩ := inP_nat h1 hnc (by omega)
  rw [nI_clamp (by omega)] at h2
  obtain ⟨hp, e⟩ := hpm c0 hc0
  obtain ⟨p0, hp0, rfl⟩ := inP_nat h2 e (by omega)
  exact ⟨c0, p0, hc0, hp0, by omega, rfl, rfl⟩
def rK2 (x y : Int32) : Nat := 2 * x.toNatClampNeg + y.toNatClampNeg
theorem rK2_eq {a b : Nat} (ha : a < 100) (hb : b < 100) : rK2 (nI a) (nI b) = 2 * a + b := by unfold rK2; rw [nI_clamp (by omega), nI_clamp (by omega)]
def rPartV (v : Nat → Int32) (F : Nat → Nat → Int32) (x y w : Int32) : Int32 := if rPart v F x y = true then (if w.toInt = 0 then F 25 (rK2 x y) else if w.toInt = 1 then F 30 (rK2 x y) else if w.toInt = 2 then rBad (F 30 (rK2 x y)) else if w.toInt = 3 then F 31 (rK2 x y) else if w.toInt = 4 then rArch F (rK2 x y) else if w.toInt = 5 then nI (nq F (rK2 x y)) else -9002) else -9001
set_option maxHeartbeats 4000000 in
set_option maxRecDepth 100000 in
theorem c_X5_part (l : Launch) (D : va_G) (cs : Nat → ClassId) (M : wM) (X : Nat) (ad : Nat → Nat) (v : Nat → Int32) (F : Nat → Nat → Int32) (G : Nat → Nat → Int64) (hS : RS cs M X ad v F G) (nc : Nat) (hnc : v 19 = nI nc) (hc40 : nc ≤ 40) (pm : Nat → Nat) (hpm : ∀ c, c < nc → pm c ≤ 2 ∧ F 24 c = nI (pm c)) (p1 p2 w : Int32) : Met l yX5_part (mw yX5_part cX5_part 5 (some .int)) { frames := 3, cells := 0, slots := 0, locals := 65 } (roP D cs M [.ref X, .int p1, .int p2, .int w]) (vp_Si (fun r => r = rPartV v F p1 p2 w)) 0 0 noA := by
  refine ro_met rfl (Nat.le_of_ble_eq_true rfl) ?_
  intro p e s m below meth c ls C hR hr hlk hl
  have C : kx D cs p m c cX5_part 5 s _ RX5 := C
  have hx := C.1.1
  have hb := C.1.2.1
  have hl : lv_has ls 5 [(0, .ref X), (1, .int p1), (2, .int p2), (3, .int w)] := hl
  refine lv_aload_n hx hb dX5_part_0 rfl (lv_at hl 0 rfl) ?_
  refine lv_iload_n hx hb dX5_part_1 rfl (lv_at hl 1 rfl) ?_
  refine lv_iload_n hx hb dX5_part_2 rfl (lv_at hl 2 rfl) ?_
  refine ro_goI (ro_V (As := [.int p1, .int p2]) (rest := []) C hR st_X5_227 (c_X5_isPart l D cs _ X ad v F G hS nc hnc (by omega) p1 p2) hS.1 rfl rfl ⟨rfl, rfl, Nat.le_of_ble_eq_true rfl, Nat.le_of_ble_eq_true rfl⟩ rfl hl.1 rfl (Nat.le_of_ble_eq_true rfl) dX5_part_3 ⟨Nat.le_of_ble_eq_true rfl, Nat.le_of_ble_eq_true rfl⟩) (fun r_3 h_3 => ?_)
  refine lv_if_ne (tgt := 13) hx hb dX5_part_6 (by decide) (fun c_6 => ?_) (fun c_6 => ?_)
  · have c_6 : rPart v F p1 p2 = true := bz1 h_3 c_6
    obtain ⟨c0, q0, hc0, hq0m, hq02, rfl, rfl⟩ := rPart_nat c_6 hnc (by omega) hpm
    have hk2 := rK2_eq (a := c0) (b := q0) (by omega) (by omega)
    refine lv_iconst (v := 2) hx hb dX5_part_13 (by decide) ?_
    refine lv_iload_n hx hb dX5_part_14 rfl (lv_at hl 1 rfl) ?_
    refine lv_imul hx hb dX5_part_15 ?_
    refine top_eq (y := nI (2 * c0)) (tn_mul rfl rfl) ?_
    refine lv_iload_n hx hb dX5_part_16 rfl (lv_at hl 2 rfl) ?_
    refine lv_iadd hx hb dX5_part_17 ?_
    refine top_eq (y := nI ((2 * c0) + q0)) (tn_add rfl rfl) ?_
    refine lv_istore (lv' := [(4, .int (nI ((2 * c0) + q0))), (0, .ref X), (1, .int (nI c0)), (2, .int (nI q0)), (3, .int w)]) hx hb dX5_part_18 hl (by decide) rfl (fun ls hl => ?_)
    refine lv_iload_n hx hb dX5_part_20 rfl (lv_at hl 4 rfl) ?_
    rcases sw_cases w 5 with h_21 | ⟨k_21, hk_21, e_21⟩
    · refine sw_out (tgt := 109) C h_21 dX5_part_21 (by decide) ?_
      refine lv_sipush (v := (-9002)) hx hb dX5_part_109 (by decide) ?_
      exact ro_iret C hr hlk (by rw [rPartV, if_pos c_6]; rw [if_neg (by omega), if_neg (by omega), if_neg (by omega), if_neg (by omega), if_neg (by omega), if_neg (by omega)]) dX5_part_112
    · match k_21, hk_21, e_21 with
      | 0, _, e_21 =>
        refine sw_in (tgt := 60) C 0 e_21 (by decide) (by decide) dX5_part_21 rfl (by decide) ?_
        have hsw : w.toInt = 0 := by rw [e_21]; rfl
        refine lv_aload_n hx hb dX5_part_60 rfl (lv_at hl 1 rfl) ?_
        refine gf_X5_71 C hR hS.1 rfl dX5_part_61 ?_
        refine lv_iload hx hb dX5_part_64 (lv_at hl 0 rfl) ?_
        refine r_ialdN (k := ((2 * c0) + q0)) C hR (RS.i hS 25 80 rfl rfl) (by omega) (by decide) rfl dX5_part_66 ?_
        exact ro_iret C hr hlk (by simp [rPartV, c_6, hsw, hk2]) dX5_part_67
      | 1, _, e_21 =>
        refine sw_in (tgt := 68) C 1 e_21 (by decide) (by decide) dX5_part_21 rfl (by decide) ?_
        have hsw : w.toInt = 1 := by rw [e_21]; rfl
        refine lv_aload_n hx hb dX5_part_68 rfl (lv_at hl 1 rfl) ?_
        refine gf_X5_86 C hR hS.1 rfl dX5_part_69 ?_
        refine lv_iload hx hb dX5_part_72 (lv_at hl 0 rfl) ?_
        refine r_ialdN (k := ((2 * c0) + q0)) C hR (RS.i hS 30 80 rfl rfl) (by omega) (by decide) rfl dX5_part_74 ?_
        exact ro_iret C hr hlk (by simp [rPartV, c_6, hsw, hk2]) dX5_part_75
      | 2, _, e_21 =>
        refine sw_in (tgt := 76) C 2 e_21 (by decide) (by decide) dX5_part_21 rfl (by decide) ?_
        have hsw : w.toInt = 2 := by rw [e_21]; rfl
        refine lv_aload_n hx hb dX5_part_76 rfl (lv_at hl 1 rfl) ?_
        refine gf_X5_86 C hR hS.1 rfl dX5_part_77 ?_
        refine lv_iload hx hb dX5_part_80 (lv_at hl 0 rfl) ?_
        refine r_ialdN (k := ((2 * c0) + q0)) C hR (RS.i hS 30 80 rfl rfl) (by omega) (by decide) rfl dX5_part_82 ?_
        refine ro_goI (ro_S (As := [.int (F 30 ((2 * c0) + q0))]) (rest := []) C hR st_X5_215 (c_X5_badnessOf l D cs _ (F 30 ((2 * c0) + q0))) ⟨rfl, rfl, Nat.le_of_ble_eq_true rfl, Nat.le_of_ble_eq_true rfl⟩ rfl hl.1 rfl (Nat.le_of_ble_eq_true rfl) dX5_part_83 ⟨Nat.le_of_ble_eq_true rfl, Nat.le_of_ble_eq_true rfl⟩) (fun r_83 h_83 => ?_)
        exact ro_iret C hr hlk (by simp [rPartV, c_6, hsw, hk2, h_83]) dX5_part_86
      | 3, _, e_21 =>
        refine sw_in (tgt := 87) C 3 e_21 (by decide) (by decide) dX5_part_21 rfl (by decide) ?_
        have hsw : w.toInt = 3 := by rw [e_21]; rfl
        refine lv_aload_n hx hb dX5_part_87 rfl (lv_at hl 1 rfl) ?_
        refine gf_X5_89 C hR hS.1 rfl dX5_part_88 ?_
        refine lv_iload hx hb dX5_part_91 (lv_at hl 0 rfl) ?_
        refine r_ialdN (k := ((2 * c0) + q0)) C hR (RS.i hS 31 80 rfl rfl) (by omega) (by decide) rfl dX5_part_93 ?_
        exact ro_iret C hr hlk (by simp [rPartV, c_6, hsw, hk2]) dX5_part_94
      | 4, _, e_21 =>
        refine sw_in (tgt := 95) C 4 e_21 (by decide) (by decide) dX5_part_21 rfl (by decide) ?_
        have hsw : w.toInt = 4 := by rw [e_21]; rfl
        refine lv_aload_n hx hb dX5_part_95 rfl (lv_at hl 1 rfl) ?_
        refine lv_iload hx hb dX5_part_96 (lv_at hl 0 rfl) ?_
        refine ro_goI (ro_V (As := [.int (nI ((2 * c0) + q0))]) (rest := []) C hR st_X5_166 (c_X5_arch l D cs _ X ad v F G hS ((2 * c0) + q0) (by omega)) hS.1 rfl rfl ⟨rfl, rfl, Nat.le_of_ble_eq_true rfl, Nat.le_of_ble_eq_true rfl⟩ rfl hl.1 rfl (Nat.le_of_ble_eq_true rfl) dX5_part_98 ⟨Nat.le_of_ble_eq_true rfl, Nat.le_of_ble_eq_true rfl⟩) (fun r_98 h_98 => ?_)
        exact ro_iret C hr hlk (by simp [rPartV, c_6, hsw, hk2, h_98]) dX5_part_101
      | 5, _, e_21 =>
        refine sw_in (tgt := 102) C 5 e_21 (by decide) (by decide) dX5_part_21 rfl (by decide) ?_
        have hsw : w.toInt = 5 := by rw [e_21]; rfl
        refine lv_aload_n hx hb dX5_part_102 rfl (lv_at hl 1 rfl) ?_
        refine lv_iload hx hb dX5_part_103 (lv_at hl 0 rfl) ?_
        refine ro_goI (ro_V (As := [.int (nI ((2 * c0) + q0))]) (rest := []) C hR st_X5_212 (c_X5_candidates l D cs _ X ad v F G hS ((2 * c0) + q0) (by omega)) hS.1 rfl rfl ⟨rfl, rfl, Nat.le_of_ble_eq_true rfl, Nat.le_of_ble_eq_true rfl⟩ rfl hl.1 rfl (Nat.le_of_ble_eq_true rfl) dX5_part_105 ⟨Nat.le_of_ble_eq_true rfl, Nat.le_of_ble_eq_true rfl⟩) (fun r_105 h_105 => ?_)
        refine top_eq (y := nI (nq F ((2 * c0) + q0))) (Eq.trans h_105 (nq_eq _ _)) ?_
        have hq_r_105 := nq_le F ((2 * c0) + q0)
        exact ro_iret C hr hlk (by simp [rPartV, c_6, hsw, hk2]) dX5_part_108
      | k + 6, hk_21, _ => exact absurd hk_21 (by omega)
  · have c_6 : ¬ (rPart v F p1 p2 = true) := bz0 h_3 c_6
    refine lv_sipush (v := (-9001)) hx hb dX5_part_9 (by decide) ?_
    exact ro_iret C hr hlk (by simp [rPartV, c_6]) dX5_part_12

def rPoint (v : Nat → Int32) (F : Nat → Nat → Int32) (x y i ax : Int32) : Int32 := if rPart v F x y = true then (if inB i 0 3 = true ∧ inB ax 0 1 = true then (if ax = 0 then rPx F (rK2 x y) i else rPy F (rK2 x y) (F 30 (rK2 x y)) i) else -9002) else -9001
def rCandV (v : Nat → Int32) (F : Nat → Nat → Int32) (nm nw nc : Nat) (x y q w : Int32) : Int32 := if rPart v F x y = true then (if inB q 0 (nI (nq F (rK2 x y)) - 1) = true ∧ inB w 0 2 = true then (if w = 0 then nI (rBars F nm nw (rK2 x y) q) else if w = 1 then nI (rHulls F nc (rK2 x y) q) else rBad q) else -9002) else -9001
def rWithinV (v : Nat → Int32) (F : Nat → Nat → Int32) (x y z w : Int32) : Int32 := if rPart v F x y = true ∧ rPart v F z w = true then (if rIn F (rK2 x y) (rK2 z w) = true then 1 else 0) else -9001
set_option maxHeartbeats 4000000 in
set_option maxRecDepth 100000 in
theorem c_X5_point (l : Launch) (D : va_G) (cs : Nat → ClassId) (M : wM) (X : Nat) (ad : Nat → Nat) (v : Nat → Int32) (F : Nat → Nat → Int32) (G : Nat → Nat → Int64) (hS : RS cs M X ad v F G) (nc : Nat) (hnc : v 19 = nI nc) (hc40 : nc ≤ 40) (pm : Nat → Nat) (hpm : ∀ c, c < nc → pm c ≤ 2 ∧ F 24 c = nI (pm c)) (p1 p2 i ax : Int32) : Met l yX5_point (mw yX5_point cX5_point 6 (some .int)) { frames := 3, cells := 0, slots := 0, locals := 65 } (roP D cs M [.ref X, .int p1, .int p2, .int i, .int ax]) (vp_Si (fun r => r = rPoint v F p1 p2 i ax)) 0 0 noA := by
  refine ro_met rfl (Nat.le_of_ble_eq_true rfl) ?_
  intro p e s m below meth c ls C hR hr hlk hl
  have C : kx D cs p m c cX5_point 6 s _ RX5 := C
  have hx := C.1.1
  have hb := C.1.2.1
  have hl : lv_has ls 6 [(0, .ref X), (1, .int p1), (2, .int p2), (3, .int i), (4, .int ax)] := hl
  refine lv_aload_n hx hb dX5_point_0 rfl (lv_at hl 0 rfl) ?_
  refine lv_iload_n hx hb dX5_point_1 rfl (lv_at hl 1 rfl) ?_
  refine lv_iload_n hx hb dX5_point_2 rfl (lv_at hl 2 rfl) ?_
  refine ro_goI (ro_V (As := [.int p1, .int p2]) (rest := []) C hR st_X5_227 (c_X5_isPart l D cs _ X ad v F G hS nc hnc (by omega) p1 p2) hS.1 rfl rfl ⟨rfl, rfl, Nat.le_of_ble_eq_true rfl, Nat.le_of_ble_eq_true rfl⟩ rfl hl.1 rfl (Nat.le_of_ble_eq_true rfl) dX5_point_3 ⟨Nat.le_of_ble_eq_true rfl, Nat.le_of_ble_eq_true rfl⟩) (fun r_3 h_3 => ?_)
  refine lv_if_ne (tgt := 13) hx hb dX5_point_6 (by decide) (fun c_6 => ?_) (fun c_6 => ?_)
  · have c_6 : rPart v F p1 p2 = true := bz1 h_3 c_6
    obtain ⟨c0, q0, hc0, hq0m, hq02, rfl, rfl⟩ := rPart_nat c_6 hnc (by omega) hpm
    have hk2 := rK2_eq (a := c0) (b := q0) (by omega) (by omega)
    refine lv_iload_n hx hb dX5_point_13 rfl (lv_at hl 3 rfl) ?_
    refine lv_iconst (v := 0) hx hb dX5_point_14 (by decide) ?_
    refine lv_iconst (v := 3) hx hb dX5_point_15 (by decide) ?_
    refine ro_goI (ro_S (As := [.int i, .int 0, .int 3]) (rest := []) C hR st_X5_109 (c_X5_in l D cs _ i 0 3) ⟨rfl, rfl, Nat.le_of_ble_eq_true rfl, Nat.le_of_ble_eq_true rfl⟩ rfl hl.1 rfl (Nat.le_of_ble_eq_true rfl) dX5_point_16 ⟨Nat.le_of_ble_eq_true rfl, Nat.le_of_ble_eq_true rfl⟩) (fun r_16 h_16 => ?_)
    refine lv_if_eq (tgt := 32) hx hb dX5_point_19 (by decide) (fun c_19 => ?_) (fun c_19 => ?_)
    · have c_19 : ¬ (inB i 0 3 = true) := bz0 h_16 c_19
      refine lv_sipush (v := (-9002)) hx hb dX5_point_32 (by decide) ?_
      exact ro_iret C hr hlk (by simp [rPoint, c_6, c_19, hk2]) dX5_point_35
    · have c_19 : inB i 0 3 = true := bz1 h_16 c_19
      refine lv_iload hx hb dX5_point_22 (lv_at hl 4 rfl) ?_
      refine lv_iconst (v := 0) hx hb dX5_point_24 (by decide) ?_
      refine lv_iconst (v := 1) hx hb dX5_point_25 (by decide) ?_
      refine ro_goI (ro_S (As := [.int ax, .int 0, .int 1]) (rest := []) C hR st_X5_109 (c_X5_in l D cs _ ax 0 1) ⟨rfl, rfl, Nat.le_of_ble_eq_true rfl, Nat.le_of_ble_eq_true rfl⟩ rfl hl.1 rfl (Nat.le_of_ble_eq_true rfl) dX5_point_26 ⟨Nat.le_of_ble_eq_true rfl, Nat.le_of_ble_eq_true rfl⟩) (fun r_26 h_26 => ?_)
      refine lv_if_ne (tgt := 36) hx hb dX5_point_29 (by decide) (fun c_29 => ?_) (fun c_29 => ?_)
      · have c_29 : inB ax 0 1 = true := bz1 h_26 c_29
        refine lv_iconst (v := 2) hx hb dX5_point_36 (by decide) ?_
        refine lv_iload_n hx hb dX5_point_37 rfl (lv_at hl 1 rfl) ?_
        refine lv_imul hx hb dX5_point_38 ?_
        refine top_eq (y := nI (2 * c0)) (tn_mul rfl rfl) ?_
        refine lv_iload_n hx hb dX5_point_39 rfl (lv_at hl 2 rfl) ?_
        refine lv_iadd hx hb dX5_point_40 ?_
        refine top_eq (y := nI ((2 * c0) + q0)) (tn_add rfl rfl) ?_
        refine lv_istore (lv' := [(5, .int (nI ((2 * c0) + q0))), (0, .ref X), (1, .int (nI c0)), (2, .int (nI q0)), (3, .int i), (4, .int ax)]) hx hb dX5_point_41 hl (by decide) rfl (fun ls hl => ?_)
        refine lv_iload hx hb dX5_point_43 (lv_at hl 5 rfl) ?_
        refine lv_if_ne (tgt := 58) hx hb dX5_point_45 (by decide) (fun c_45 => ?_) (fun c_45 => ?_)
        · refine lv_aload_n hx hb dX5_point_58 rfl (lv_at hl 1 rfl) ?_
          refine lv_iload hx hb dX5_point_59 (lv_at hl 0 rfl) ?_
          refine lv_aload_n hx hb dX5_point_61 rfl (lv_at hl 1 rfl) ?_
          refine gf_X5_86 C hR hS.1 rfl dX5_point_62 ?_
          refine lv_iload hx hb dX5_point_65 (lv_at hl 0 rfl) ?_
          refine r_ialdN (k := ((2 * c0) + q0)) C hR (RS.i hS 30 80 rfl rfl) (by omega) (by decide) rfl dX5_point_67 ?_
          refine lv_iload_n hx hb dX5_point_68 rfl (lv_at hl 4 rfl) ?_
          refine ro_goI (ro_V (As := [.int (nI ((2 * c0) + q0)), .int (F 30 ((2 * c0) + q0)), .int i]) (rest := []) C hR st_X5_194 (c_X5_py l D cs _ X ad v F G hS ((2 * c0) + q0) (by omega) (F 30 ((2 * c0) + q0)) i) hS.1 rfl rfl ⟨rfl, rfl, Nat.le_of_ble_eq_true rfl, Nat.le_of_ble_eq_true rfl⟩ rfl hl.1 rfl (Nat.le_of_ble_eq_true rfl) dX5_point_69 ⟨Nat.le_of_ble_eq_true rfl, Nat.le_of_ble_eq_true rfl⟩) (fun r_69 h_69 => ?_)
          exact ro_iret C hr hlk (by rw [rPoint, if_pos c_6, if_pos ⟨c_19, c_29⟩, if_neg c_45, hk2]; exact h_69) dX5_point_72
        · refine lv_aload_n hx hb dX5_point_48 rfl (lv_at hl 1 rfl) ?_
          refine lv_iload hx hb dX5_point_49 (lv_at hl 0 rfl) ?_
          refine lv_iload_n hx hb dX5_point_51 rfl (lv_at hl 4 rfl) ?_
          refine ro_goI (ro_V (As := [.int (nI ((2 * c0) + q0)), .int i]) (rest := []) C hR st_X5_191 (c_X5_px l D cs _ X ad v F G hS ((2 * c0) + q0) (by omega) i) hS.1 rfl rfl ⟨rfl, rfl, Nat.le_of_ble_eq_true rfl, Nat.le_of_ble_eq_true rfl⟩ rfl hl.1 rfl (Nat.le_of_ble_eq_true rfl) dX5_point_52 ⟨Nat.le_of_ble_eq_true rfl, Nat.le_of_ble_eq_true rfl⟩) (fun r_52 h_52 => ?_)
          refine lv_goto (tgt := 72) hx hb dX5_point_55 (by decide) ?_
          exact ro_iret C hr hlk (by rw [rPoint, if_pos c_6, if_pos ⟨c_19, c_29⟩, if_pos c_45, hk2]; exact h_52) dX5_point_72
      · have c_29 : ¬ (inB ax 0 1 = true) := bz0 h_26 c_29
        refine lv_sipush (v := (-9002)) hx hb dX5_point_32 (by decide) ?_
        exact ro_iret C hr hlk (by simp [rPoint, c_6, c_19, c_29, hk2]) dX5_point_35
  · have c_6 : ¬ (rPart v F p1 p2 = true) := bz0 h_3 c_6
    refine lv_sipush (v := (-9001)) hx hb dX5_point_9 (by decide) ?_
    exact ro_iret C hr hlk (by simp [rPoint, c_6]) dX5_point_12

set_option maxHeartbeats 4000000 in
set_option maxRecDepth 100000 in
theorem c_X5_candidate (l : Launch) (D : va_G) (cs : Nat → ClassId) (A : Nat → Prop) (M : wM) (X : Nat) (ad : Nat → Nat) (v : Nat → Int32) (F : Nat → Nat → Int32) (G : Nat → Nat → Int64) (hS : RS cs M X ad v F G) (nm nw nc : Nat) (hnm : v 7 = nI nm) (hm40 : nm ≤ 40) (hnw : v 13 = nI nw) (hw12 : nw ≤ 12) (hnc : v 19 = nI nc) (hc40 : nc ≤ 40) (pm : Nat → Nat) (hpm : ∀ c, c < nc → pm c ≤ 2 ∧ F 24 c = nI (pm c)) (p1 p2 q w : Int32) : Met l yX5_candidate (mw yX5_candidate cX5_candidate 6 (some .int)) { frames := 5, cells := 0, slots := 0, locals := 138 } (wrP D cs A M [.ref X, .int p1, .int p2, .int q, .int w]) (va_Qi (fun r M' => ∃ G', RS cs M' X ad v F G' ∧ r = rCandV v F nm nw nc p1 p2 q w) (wrB D A) A) 0 0 A := by
  refine wr_met rfl (Nat.le_of_ble_eq_true rfl) ?_
  intro p e s m below meth c ls C hW hr hlk hini hl
  have C : kx D cs p m c cX5_candidate 6 s _ RX5 := C
  have hx := C.1.1
  have hb := C.1.2.1
  have hl : lv_has ls 6 [(0, .ref X), (1, .int p1), (2, .int p2), (3, .int q), (4, .int w)] := hl
  refine lv_aload_n hx hb dX5_candidate_0 rfl (lv_at hl 0 rfl) ?_
  refine lv_iload_n hx hb dX5_candidate_1 rfl (lv_at hl 1 rfl) ?_
  refine lv_iload_n hx hb dX5_candidate_2 rfl (lv_at hl 2 rfl) ?_
  refine ro_goI (ro_V (As := [.int p1, .int p2]) (rest := []) C hW.rd st_X5_227 (c_X5_isPart l D cs _ X ad v F G hS nc hnc (by omega) p1 p2) hS.1 rfl rfl ⟨rfl, rfl, Nat.le_of_ble_eq_true rfl, Nat.le_of_ble_eq_true rfl⟩ rfl hl.1 rfl (Nat.le_of_ble_eq_true rfl) dX5_candidate_3 ⟨Nat.le_of_ble_eq_true rfl, Nat.le_of_ble_eq_true rfl⟩) (fun r_3 h_3 => ?_)
  refine lv_if_ne (tgt := 13) hx hb dX5_candidate_6 (by decide) (fun c_6 => ?_) (fun c_6 => ?_)
  · have c_6 : rPart v F p1 p2 = true := bz1 h_3 c_6
    obtain ⟨c0, q0, hc0, hq0m, hq02, rfl, rfl⟩ := rPart_nat c_6 hnc (by omega) hpm
    have hk2 := rK2_eq (a := c0) (b := q0) (by omega) (by omega)
    refine lv_iconst (v := 2) hx hb dX5_candidate_13 (by decide) ?_
    refine lv_iload_n hx hb dX5_candidate_14 rfl (lv_at hl 1 rfl) ?_
    refine lv_imul hx hb dX5_candidate_15 ?_
    refine top_eq (y := nI (2 * c0)) (tn_mul rfl rfl) ?_
    refine lv_iload_n hx hb dX5_candidate_16 rfl (lv_at hl 2 rfl) ?_
    refine lv_iadd hx hb dX5_candidate_17 ?_
    refine top_eq (y := nI ((2 * c0) + q0)) (tn_add rfl rfl) ?_
    refine lv_istore (lv' := [(5, .int (nI ((2 * c0) + q0))), (0, .ref X), (1, .int (nI c0)), (2, .int (nI q0)), (3, .int q), (4, .int w)]) hx hb dX5_candidate_18 hl (by decide) rfl (fun ls hl => ?_)
    refine lv_iload_n hx hb dX5_candidate_20 rfl (lv_at hl 4 rfl) ?_
    refine lv_iconst (v := 0) hx hb dX5_candidate_21 (by decide) ?_
    refine lv_aload_n hx hb dX5_candidate_22 rfl (lv_at hl 1 rfl) ?_
    refine lv_iload hx hb dX5_candidate_23 (lv_at hl 0 rfl) ?_
    refine ro_goI (ro_V (As := [.int (nI ((2 * c0) + q0))]) (rest := [.int 0, .int q]) C hW.rd st_X5_212 (c_X5_candidates l D cs _ X ad v F G hS ((2 * c0) + q0) (by omega)) hS.1 rfl rfl ⟨rfl, rfl, Nat.le_of_ble_eq_true rfl, Nat.le_of_ble_eq_true rfl⟩ rfl hl.1 rfl (Nat.le_of_ble_eq_true rfl) dX5_candidate_25 ⟨Nat.le_of_ble_eq_true rfl, Nat.le_of_ble_eq_true rfl⟩) (fun r_25 h_25 => ?_)
    refine top_eq (y := nI (nq F ((2 * c0) + q0))) (Eq.trans h_25 (nq_eq _ _)) ?_
    have hq_r_25 := nq_le F ((2 * c0) + q0)
    refine lv_iconst (v := 1) hx hb dX5_candidate_28 (by decide) ?_
    refine lv_isub hx hb dX5_candidate_29 ?_
    refine ro_goI (ro_S (As := [.int q, .int 0, .int ((nI (nq F ((2 * c0) + q0))) - 1)]) (rest := []) C hW.rd st_X5_109 (c_X5_in l D cs _ q 0 ((nI (nq F ((2 * c0) + q0))) - 1)) ⟨rfl, rfl, Nat.le_of_ble_eq_true rfl, Nat.le_of_ble_eq_true rfl⟩ rfl hl.1 rfl (Nat.le_of_ble_eq_true rfl) dX5_candidate_30 ⟨Nat.le_of_ble_eq_true rfl, Nat.le_of_ble_eq_true rfl⟩) (fun r_30 h_30 => ?_)
    refine lv_if_eq (tgt := 46) hx hb dX5_candidate_33 (by decide) (fun c_33 => ?_) (fun c_33 => ?_)
    · have c_33 : ¬ (inB q 0 ((nI (nq F ((2 * c0) + q0))) - 1) = true) := bz0 h_30 c_33
      refine lv_sipush (v := (-9002)) hx hb dX5_candidate_46 (by decide) ?_
      exact wr_iret C hW hr hlk (⟨_, hS, by simp [rCandV, c_6, c_33, hk2]⟩) dX5_candidate_49
    · have c_33 : inB q 0 ((nI (nq F ((2 * c0) + q0))) - 1) = true := bz1 h_30 c_33
      refine lv_iload hx hb dX5_candidate_36 (lv_at hl 5 rfl) ?_
      refine lv_iconst (v := 0) hx hb dX5_candidate_38 (by decide) ?_
      refine lv_iconst (v := 2) hx hb dX5_candidate_39 (by decide) ?_
      refine ro_goI (ro_S (As := [.int w, .int 0, .int 2]) (rest := []) C hW.rd st_X5_109 (c_X5_in l D cs _ w 0 2) ⟨rfl, rfl, Nat.le_of_ble_eq_true rfl, Nat.le_of_ble_eq_true rfl⟩ rfl hl.1 rfl (Nat.le_of_ble_eq_true rfl) dX5_candidate_40 ⟨Nat.le_of_ble_eq_true rfl, Nat.le_of_ble_eq_true rfl⟩) (fun r_40 h_40 => ?_)
      refine lv_if_ne (tgt := 50) hx hb dX5_candidate_43 (by decide) (fun c_43 => ?_) (fun c_43 => ?_)
      · have c_43 : inB w 0 2 = true := bz1 h_40 c_43
        refine lv_iload hx hb dX5_candidate_50 (lv_at hl 5 rfl) ?_
        refine lv_if_ne (tgt := 65) hx hb dX5_candidate_52 (by decide) (fun c_52 => ?_) (fun c_52 => ?_)
        · refine lv_iload hx hb dX5_candidate_65 (lv_at hl 5 rfl) ?_
          refine lv_iconst (v := 1) hx hb dX5_candidate_67 (by decide) ?_
          refine lv_icmp_ne (tgt := 81) hx hb dX5_candidate_68 (by decide) (fun c_68 => ?_) (fun c_68 => ?_)
          · refine lv_iload_n hx hb dX5_candidate_81 rfl (lv_at hl 4 rfl) ?_
            refine ro_goI (ro_S (As := [.int q]) (rest := []) C hW.rd st_X5_215 (c_X5_badnessOf l D cs _ q) ⟨rfl, rfl, Nat.le_of_ble_eq_true rfl, Nat.le_of_ble_eq_true rfl⟩ rfl hl.1 rfl (Nat.le_of_ble_eq_true rfl) dX5_candidate_82 ⟨Nat.le_of_ble_eq_true rfl, Nat.le_of_ble_eq_true rfl⟩) (fun r_82 h_82 => ?_)
            exact wr_iret C hW hr hlk (⟨_, hS, by rw [rCandV, if_pos c_6, hk2, if_pos ⟨c_33, c_43⟩, if_neg c_52, if_neg c_68]; exact h_82⟩) dX5_candidate_85
          · refine lv_aload_n hx hb dX5_candidate_71 rfl (lv_at hl 1 rfl) ?_
            refine lv_iload hx hb dX5_candidate_72 (lv_at hl 0 rfl) ?_
            refine lv_iload_n hx hb dX5_candidate_74 rfl (lv_at hl 4 rfl) ?_
            refine wr_goI hW (wr_V (As := [.int (nI ((2 * c0) + q0)), .int q]) (rest := []) C hW st_X5_221 (c_X5_hulls l D cs A _ X ad v F G hS nc hnc (by omega) ((2 * c0) + q0) (by omega) q) hS.1 rfl rfl ⟨rfl, rfl, Nat.le_of_ble_eq_true rfl, Nat.le_of_ble_eq_true rfl⟩ rfl hl.1 rfl (Nat.le_of_ble_eq_true rfl) dX5_candidate_75 ⟨Nat.le_of_ble_eq_true rfl, Nat.le_of_ble_eq_true rfl⟩) (fun r_75 M_75 H locs h_75 hW => ?_)
            obtain ⟨G_1, hS, er_75⟩ := h_75
            refine top_eq (y := nI (rHulls F nc ((2 * c0) + q0) q)) er_75 ?_
            have hH_r_75 := rHulls_le F nc ((2 * c0) + q0) q
            refine lv_goto (tgt := 85) hx hb dX5_candidate_78 (by decide) ?_
            exact wr_iret C hW hr hlk (⟨_, hS, by rw [rCandV, if_pos c_6, hk2, if_pos ⟨c_33, c_43⟩, if_neg c_52, if_pos c_68]⟩) dX5_candidate_85
        · refine lv_aload_n hx hb dX5_candidate_55 rfl (lv_at hl 1 rfl) ?_
          refine lv_iload hx hb dX5_candidate_56 (lv_at hl 0 rfl) ?_
          refine lv_iload_n hx hb dX5_candidate_58 rfl (lv_at hl 4 rfl) ?_
          refine wr_goI hW (wr_V (As := [.int (nI ((2 * c0) + q0)), .int q]) (rest := []) C hW st_X5_218 (c_X5_bars l D cs A _ X ad v F G hS nm nw hnm (by omega) hnw (by omega) ((2 * c0) + q0) (by omega) q) hS.1 rfl rfl ⟨rfl, rfl, Nat.le_of_ble_eq_true rfl, Nat.le_of_ble_eq_true rfl⟩ rfl hl.1 rfl (Nat.le_of_ble_eq_true rfl) dX5_candidate_59 ⟨Nat.le_of_ble_eq_true rfl, Nat.le_of_ble_eq_true rfl⟩) (fun r_59 M_59 H locs h_59 hW => ?_)
          obtain ⟨G_2, hS, er_59⟩ := h_59
          refine top_eq (y := nI (rBars F nm nw ((2 * c0) + q0) q)) er_59 ?_
          have hB_r_59 := rBars_le F nm nw ((2 * c0) + q0) q
          refine lv_goto (tgt := 85) hx hb dX5_candidate_62 (by decide) ?_
          exact wr_iret C hW hr hlk (⟨_, hS, by rw [rCandV, if_pos c_6, hk2, if_pos ⟨c_33, c_43⟩, if_pos c_52]⟩) dX5_candidate_85
      · have c_43 : ¬ (inB w 0 2 = true) := bz0 h_40 c_43
        refine lv_sipush (v := (-9002)) hx hb dX5_candidate_46 (by decide) ?_
        exact wr_iret C hW hr hlk (⟨_, hS, by simp [rCandV, c_6, c_33, c_43, hk2]⟩) dX5_candidate_49
  · have c_6 : ¬ (rPart v F p1 p2 = true) := bz0 h_3 c_6
    refine lv_sipush (v := (-9001)) hx hb dX5_candidate_9 (by decide) ?_
    exact wr_iret C hW hr hlk (⟨_, hS, by simp [rCandV, c_6]⟩) dX5_candidate_12

set_option maxHeartbeats 4000000 in
set_option maxRecDepth 100000 in
theorem c_X5_within (l : Launch) (D : va_G) (cs : Nat → ClassId) (M : wM) (X : Nat) (ad : Nat → Nat) (v : Nat → Int32) (F : Nat → Nat → Int32) (G : Nat → Nat → Int64) (hS : RS cs M X ad v F G) (nc : Nat) (hnc : v 19 = nI nc) (hc40 : nc ≤ 40) (pm : Nat → Nat) (hpm : ∀ c, c < nc → pm c ≤ 2 ∧ F 24 c = nI (pm c)) (p1 p2 p3 p4 : Int32) : Met l yX5_within (mw yX5_within cX5_within 5 (some .int)) { frames := 3, cells := 0, slots := 0, locals := 65 } (roP D cs M [.ref X, .int p1, .int p2, .int p3, .int p4]) (vp_Si (fun r => r = rWithinV v F p1 p2 p3 p4)) 0 0 noA := by
  refine ro_met rfl (Nat.le_of_ble_eq_true rfl) ?_
  intro p e s m below meth c ls C hR hr hlk hl
  have C : kx D cs p m c cX5_within 5 s _ RX5 := C
  have hx := C.1.1
  have hb := C.1.2.1
  have hl : lv_has ls 5 [(0, .ref X), (1, .int p1), (2, .int p2), (3, .int p3), (4, .int p4)] := hl
  refine lv_aload_n hx hb dX5_within_0 rfl (lv_at hl 0 rfl) ?_
  refine lv_iload_n hx hb dX5_within_1 rfl (lv_at hl 1 rfl) ?_
  refine lv_iload_n hx hb dX5_within_2 rfl (lv_at hl 2 rfl) ?_
  refine ro_goI (ro_V (As := [.int p1, .int p2]) (rest := []) C hR st_X5_227 (c_X5_isPart l D cs _ X ad v F G hS nc hnc (by omega) p1 p2) hS.1 rfl rfl ⟨rfl, rfl, Nat.le_of_ble_eq_true rfl, Nat.le_of_ble_eq_true rfl⟩ rfl hl.1 rfl (Nat.le_of_ble_eq_true rfl) dX5_within_3 ⟨Nat.le_of_ble_eq_true rfl, Nat.le_of_ble_eq_true rfl⟩) (fun r_3 h_3 => ?_)
  refine lv_if_eq (tgt := 19) hx hb dX5_within_6 (by decide) (fun c_6 => ?_) (fun c_6 => ?_)
  · have c_6 : ¬ (rPart v F p1 p2 = true) := bz0 h_3 c_6
    refine lv_sipush (v := (-9001)) hx hb dX5_within_19 (by decide) ?_
    exact ro_iret C hr hlk (by simp [rWithinV, c_6]) dX5_within_22
  · have c_6 : rPart v F p1 p2 = true := bz1 h_3 c_6
    obtain ⟨c0, q0, hc0, hq0m, hq02, rfl, rfl⟩ := rPart_nat c_6 hnc (by omega) hpm
    have hk2 := rK2_eq (a := c0) (b := q0) (by omega) (by omega)
    refine lv_aload_n hx hb dX5_within_9 rfl (lv_at hl 0 rfl) ?_
    refine lv_iload_n hx hb dX5_within_10 rfl (lv_at hl 3 rfl) ?_
    refine lv_iload hx hb dX5_within_11 (lv_at hl 4 rfl) ?_
    refine ro_goI (ro_V (As := [.int p3, .int p4]) (rest := []) C hR st_X5_227 (c_X5_isPart l D cs _ X ad v F G hS nc hnc (by omega) p3 p4) hS.1 rfl rfl ⟨rfl, rfl, Nat.le_of_ble_eq_true rfl, Nat.le_of_ble_eq_true rfl⟩ rfl hl.1 rfl (Nat.le_of_ble_eq_true rfl) dX5_within_13 ⟨Nat.le_of_ble_eq_true rfl, Nat.le_of_ble_eq_true rfl⟩) (fun r_13 h_13 => ?_)
    refine lv_if_ne (tgt := 23) hx hb dX5_within_16 (by decide) (fun c_16 => ?_) (fun c_16 => ?_)
    · have c_16 : rPart v F p3 p4 = true := bz1 h_13 c_16
      obtain ⟨c1, q1, hc1, hq1m, hq12, rfl, rfl⟩ := rPart_nat c_16 hnc (by omega) hpm
      have hk3 := rK2_eq (a := c1) (b := q1) (by omega) (by omega)
      refine lv_aload_n hx hb dX5_within_23 rfl (lv_at hl 0 rfl) ?_
      refine lv_iconst (v := 2) hx hb dX5_within_24 (by decide) ?_
      refine lv_iload_n hx hb dX5_within_25 rfl (lv_at hl 1 rfl) ?_
      refine lv_imul hx hb dX5_within_26 ?_
      refine top_eq (y := nI (2 * c0)) (tn_mul rfl rfl) ?_
      refine lv_iload_n hx hb dX5_within_27 rfl (lv_at hl 2 rfl) ?_
      refine lv_iadd hx hb dX5_within_28 ?_
      refine top_eq (y := nI ((2 * c0) + q0)) (tn_add rfl rfl) ?_
      refine lv_iconst (v := 2) hx hb dX5_within_29 (by decide) ?_
      refine lv_iload_n hx hb dX5_within_30 rfl (lv_at hl 3 rfl) ?_
      refine lv_imul hx hb dX5_within_31 ?_
      refine top_eq (y := nI (2 * c1)) (tn_mul rfl rfl) ?_
      refine lv_iload hx hb dX5_within_32 (lv_at hl 4 rfl) ?_
      refine lv_iadd hx hb dX5_within_34 ?_
      refine top_eq (y := nI ((2 * c1) + q1)) (tn_add rfl rfl) ?_
      refine ro_goI (ro_V (As := [.int (nI ((2 * c0) + q0)), .int (nI ((2 * c1) + q1))]) (rest := []) C hR st_X5_209 (c_X5_isIn l D cs _ X ad v F G hS ((2 * c0) + q0) ((2 * c1) + q1) (by omega) (by omega)) hS.1 rfl rfl ⟨rfl, rfl, Nat.le_of_ble_eq_true rfl, Nat.le_of_ble_eq_true rfl⟩ rfl hl.1 rfl (Nat.le_of_ble_eq_true rfl) dX5_within_35 ⟨Nat.le_of_ble_eq_true rfl, Nat.le_of_ble_eq_true rfl⟩) (fun r_35 h_35 => ?_)
      refine lv_if_eq (tgt := 45) hx hb dX5_within_38 (by decide) (fun c_38 => ?_) (fun c_38 => ?_)
      · have c_38 : ¬ (rIn F ((2 * c0) + q0) ((2 * c1) + q1) = true) := bz0 h_35 c_38
        refine lv_iconst (v := 0) hx hb dX5_within_45 (by decide) ?_
        exact ro_iret C hr hlk (by simp [rWithinV, c_6, c_16, c_38, hk2, hk3]) dX5_within_46
      · have c_38 : rIn F ((2 * c0) + q0) ((2 * c1) + q1) = true := bz1 h_35 c_38
        refine lv_iconst (v := 1) hx hb dX5_within_41 (by decide) ?_
        refine lv_goto (tgt := 46) hx hb dX5_within_42 (by decide) ?_
        exact ro_iret C hr hlk (by simp [rWithinV, c_6, c_16, c_38, hk2, hk3]) dX5_within_46
    · have c_16 : ¬ (rPart v F p3 p4 = true) := bz0 h_13 c_16
      refine lv_sipush (v := (-9001)) hx hb dX5_within_19 (by decide) ?_
      exact ro_iret C hr hlk (by simp [rWithinV, c_6, c_16, hk2]) dX5_within_22

def coS (F : Nat → Nat → Int32) : Nat → Int32
  | 0 => 0
  | j + 1 => coS F j + (if F 24 (j / 2) ≤ nI (j % 2) then 0 else F 31 j)
def rCount (v : Nat → Int32) (F : Nat → Nat → Int32) (nc : Nat) (w : Int32) : Int32 := if w.toInt = 0 then v 0 else if w.toInt = 1 then v 2 else if w.toInt = 2 then v 7 else if w.toInt = 3 then v 13 else if w.toInt = 4 then v 19 else if w.toInt = 5 then coS F (2 * nc) else -9002
set_option maxHeartbeats 4000000 in
set_option maxRecDepth 100000 in
theorem c_X5_count (l : Launch) (D : va_G) (cs : Nat → ClassId) (M : wM) (X : Nat) (ad : Nat → Nat) (v : Nat → Int32) (F : Nat → Nat → Int32) (G : Nat → Nat → Int64) (hS : RS cs M X ad v F G) (nc : Nat) (hnc : v 19 = nI nc) (hc40 : nc ≤ 40) (w : Int32) : Met l yX5_count (mw yX5_count cX5_count 4 (some .int)) { frames := 0, cells := 0, slots := 0, locals := 0 } (roP D cs M [.ref X, .int w]) (vp_Si (fun r => r = rCount v F nc w)) 0 0 noA := by
  refine ro_met rfl (Nat.le_of_ble_eq_true rfl) ?_
  intro p e s m below meth c ls C hR hr hlk hl
  have C : kx D cs p m c cX5_count 4 s _ RX5 := C
  have hx := C.1.1
  have hb := C.1.2.1
  have hl : lv_has ls 4 [(0, .ref X), (1, .int w)] := hl
  refine lv_iconst (v := 0) hx hb dX5_count_0 (by decide) ?_
  refine lv_istore_n (lv' := [(2, .int 0), (0, .ref X), (1, .int w)]) hx hb dX5_count_1 rfl hl (by decide) rfl (fun ls hl => ?_)
  refine lv_iconst (v := 0) hx hb dX5_count_2 (by decide) ?_
  refine lv_istore_n (lv' := [(3, .int 0), (2, .int 0), (0, .ref X), (1, .int w)]) hx hb dX5_count_3 rfl hl (by decide) rfl (fun ls hl => ?_)
  refine W.loop (σ := Nat × Int32 × Array Slot) (fun ⟨j, x, ls⟩ => F0 m 4 ls []) (fun ⟨j, x, ls⟩ => (j ≤ 2 * nc) ∧ (x = coS F j) ∧ lv_has ls 4 [(3, .int (nI j)), (2, .int x), (0, .ref X), (1, .int w)]) (fun ⟨j, x, ls⟩ => 2 * nc - j) ?_ (0, 0, _) ⟨by omega, rfl, lv_sub hl [0, 1, 2, 3] rfl⟩ rfl
  intro ⟨j, x, ls⟩ ⟨hj, ex, hl⟩ ih_4
  show W _ _ _ _ _ _ _ _ _ _ _ _ _ _ _ (F0 m 4 ls [])
  have hl : lv_has ls 4 [(3, .int (nI j)), (2, .int x), (0, .ref X), (1, .int w)] := hl
  refine lv_iload_n hx hb dX5_count_4 rfl (lv_at hl 0 rfl) ?_
  refine lv_iconst (v := 2) hx hb dX5_count_5 (by decide) ?_
  refine lv_aload_n hx hb dX5_count_6 rfl (lv_at hl 2 rfl) ?_
  refine gf_X5_136 C hR hS.1 rfl dX5_count_7 ?_
  refine top_eq (y := nI nc) hnc ?_
  refine lv_imul hx hb dX5_count_10 ?_
  refine top_eq (y := nI (2 * nc)) (tn_mul rfl rfl) ?_
  refine lv_icmp_ge (tgt := 47) hx hb dX5_count_11 (by decide) (fun c_11 => ?_) (fun c_11 => ?_)
  · have c_11 := cle_t (a := (2 * nc)) (b := j) c_11 (by omega) (by omega)
    refine lv_iload_n hx hb dX5_count_47 rfl (lv_at hl 3 rfl) ?_
    rcases sw_cases w 5 with h_48 | ⟨k_48, hk_48, e_48⟩
    · refine sw_out (tgt := 115) C h_48 dX5_count_48 (by decide) ?_
      refine lv_sipush (v := (-9002)) hx hb dX5_count_115 (by decide) ?_
      exact ro_iret C hr hlk (by rw [rCount]; rw [if_neg (by omega), if_neg (by omega), if_neg (by omega), if_neg (by omega), if_neg (by omega), if_neg (by omega)]) dX5_count_118
    · match k_48, hk_48, e_48 with
      | 0, _, e_48 =>
        refine sw_in (tgt := 88) C 0 e_48 (by decide) (by decide) dX5_count_48 rfl (by decide) ?_
        have hsw : w.toInt = 0 := by rw [e_48]; rfl
        refine lv_aload_n hx hb dX5_count_88 rfl (lv_at hl 2 rfl) ?_
        refine gf_X5_105 C hR hS.1 rfl dX5_count_89 ?_
        exact ro_iret C hr hlk (by simp [rCount, hsw]) dX5_count_92
      | 1, _, e_48 =>
        refine sw_in (tgt := 93) C 1 e_48 (by decide) (by decide) dX5_count_48 rfl (by decide) ?_
        have hsw : w.toInt = 1 := by rw [e_48]; rfl
        refine lv_aload_n hx hb dX5_count_93 rfl (lv_at hl 2 rfl) ?_
        refine gf_X5_113 C hR hS.1 rfl dX5_count_94 ?_
        exact ro_iret C hr hlk (by simp [rCount, hsw]) dX5_count_97
      | 2, _, e_48 =>
        refine sw_in (tgt := 98) C 2 e_48 (by decide) (by decide) dX5_count_48 rfl (by decide) ?_
        have hsw : w.toInt = 2 := by rw [e_48]; rfl
        refine lv_aload_n hx hb dX5_count_98 rfl (lv_at hl 2 rfl) ?_
        refine gf_X5_120 C hR hS.1 rfl dX5_count_99 ?_
        exact ro_iret C hr hlk (by simp [rCount, hsw]) dX5_count_102
      | 3, _, e_48 =>
        refine sw_in (tgt := 103) C 3 e_48 (by decide) (by decide) dX5_count_48 rfl (by decide) ?_
        have hsw : w.toInt = 3 := by rw [e_48]; rfl
        refine lv_aload_n hx hb dX5_count_103 rfl (lv_at hl 2 rfl) ?_
        refine gf_X5_123 C hR hS.1 rfl dX5_count_104 ?_
        exact ro_iret C hr hlk (by simp [rCount, hsw]) dX5_count_107
      | 4, _, e_48 =>
        refine sw_in (tgt := 108) C 4 e_48 (by decide) (by decide) dX5_count_48 rfl (by decide) ?_
        have hsw : w.toInt = 4 := by rw [e_48]; rfl
        refine lv_aload_n hx hb dX5_count_108 rfl (lv_at hl 2 rfl) ?_
        refine gf_X5_136 C hR hS.1 rfl dX5_count_109 ?_
        exact ro_iret C hr hlk (by simp [rCount, hsw]) dX5_count_112
      | 5, _, e_48 =>
        refine sw_in (tgt := 113) C 5 e_48 (by decide) (by decide) dX5_count_48 rfl (by decide) ?_
        have hsw : w.toInt = 5 := by rw [e_48]; rfl
        refine lv_iload_n hx hb dX5_count_113 rfl (lv_at hl 1 rfl) ?_
        exact ro_iret C hr hlk (by simp [rCount, hsw]; rw [ex, show j = 2 * nc by omega]) dX5_count_114
      | k + 6, hk_48, _ => exact absurd hk_48 (by omega)
  · have c_11 := cle_f (a := (2 * nc)) (b := j) c_11 (by omega) (by omega)
    refine lv_iload_n hx hb dX5_count_14 rfl (lv_at hl 1 rfl) ?_
    refine W.cut (fun z => z = if F 24 (j / 2) ≤ nI (j % 2) then 0 else F 31 j) (fun z => F0 m 39 ls (.int z :: [.int x])) (fun z_39 hz_39 => ?_) (fun J_39 => ?_)
    · refine lv_iadd hx hb dX5_count_39 ?_
      refine lv_istore_n (lv' := [(2, .int (x + z_39)), (3, .int (nI j)), (0, .ref X), (1, .int w)]) hx hb dX5_count_40 rfl hl (by decide) rfl (fun ls hl => ?_)
      refine lv_iinc (v := nI (j + 1)) (lv' := [(3, .int (nI (j + 1))), (2, .int (x + z_39)), (0, .ref X), (1, .int w)]) hx hb dX5_count_41 hl (k := 1) rfl (by exact tn_add rfl rfl) (by decide) rfl (fun ls hl => ?_)
      refine lv_goto (tgt := 4) hx hb dX5_count_44 (by decide) ?_
      exact ih_4 ((j + 1), x + z_39, _) ⟨by omega, by rw [coS, ← ex, ← hz_39], lv_sub hl [0, 1, 2, 3] rfl⟩ (by show 2 * nc - (j + 1) < 2 * nc - j; omega)
    · refine lv_iload_n hx hb dX5_count_15 rfl (lv_at hl 0 rfl) ?_
      refine lv_iconst (v := 2) hx hb dX5_count_16 (by decide) ?_
      refine lv_irem hx hb dX5_count_17 (by decide) ?_
      refine top_eq (y := nI (j % 2)) (tn_rem rfl rfl (by omega) (by decide) (by decide)) ?_
      refine lv_aload_n hx hb dX5_count_18 rfl (lv_at hl 2 rfl) ?_
      refine gf_X5_68 C hR hS.1 rfl dX5_count_19 ?_
      refine lv_iload_n hx hb dX5_count_22 rfl (lv_at hl 0 rfl) ?_
      refine lv_iconst (v := 2) hx hb dX5_count_23 (by decide) ?_
      refine lv_idiv hx hb dX5_count_24 (by decide) ?_
      refine top_eq (y := nI (j / 2)) (tn_div rfl rfl (by omega) (by decide) (by decide)) ?_
      refine r_ialdN (k := (j / 2)) C hR (RS.i hS 24 40 rfl rfl) (by omega) (by decide) rfl dX5_count_25 ?_
      refine lv_icmp_ge (tgt := 38) hx hb dX5_count_26 (by decide) (fun c_26 => ?_) (fun c_26 => ?_)
      · refine lv_iconst (v := 0) hx hb dX5_count_38 (by decide) ?_
        exact J_39 _ (by simp [c_26])
      · refine lv_aload_n hx hb dX5_count_29 rfl (lv_at hl 2 rfl) ?_
        refine gf_X5_89 C hR hS.1 rfl dX5_count_30 ?_
        refine lv_iload_n hx hb dX5_count_33 rfl (lv_at hl 0 rfl) ?_
        refine r_ialdN (k := j) C hR (RS.i hS 31 80 rfl rfl) (by omega) (by decide) rfl dX5_count_34 ?_
        refine lv_goto (tgt := 39) hx hb dX5_count_35 (by decide) ?_
        exact J_39 _ (by simp [c_26])

def alW (m n : Int64) (i : Nat) : Int64 := if i = 0 then m * m * m else if i = 1 then 3 * m * m * n else if i = 2 then 3 * m * n * n else n * n * n
def alV (F : Nat → Nat → Int32) (k : Nat) (ax : Int32) (i : Nat) : Int32 := if ax = 0 then rPx F k (nI i) else rPy F k (F 30 k) (nI i)
def alS (F : Nat → Nat → Int32) (k : Nat) (n ax : Int32) : Nat → Int64
  | 0 => 0
  | i + 1 => alS F k n ax i + alW (64 - n).toInt64 n.toInt64 i * (alV F k ax i).toInt64
def rAlong (v : Nat → Int32) (F : Nat → Nat → Int32) (x y n ax : Int32) : Int64 := if rPart v F x y = true then (if inB n 0 64 = true ∧ inB ax 0 1 = true then alS F (rK2 x y) n ax 4 else -9000000000002) else -9000000000001
set_option maxHeartbeats 4000000 in
set_option maxRecDepth 100000 in
theorem c_X5_along (l : Launch) (D : va_G) (cs : Nat → ClassId) (M : wM) (X : Nat) (ad : Nat → Nat) (v : Nat → Int32) (F : Nat → Nat → Int32) (G : Nat → Nat → Int64) (hS : RS cs M X ad v F G) (nc : Nat) (hnc : v 19 = nI nc) (hc40 : nc ≤ 40) (pm : Nat → Nat) (hpm : ∀ c, c < nc → pm c ≤ 2 ∧ F 24 c = nI (pm c)) (p1 p2 n ax : Int32) : Met l yX5_along (mw yX5_along cX5_along 13 (some .long)) { frames := 3, cells := 0, slots := 0, locals := 65 } (roP D cs M [.ref X, .int p1, .int p2, .int n, .int ax]) (vp_Sl (fun r => r = rAlong v F p1 p2 n ax)) 0 0 noA := by
  refine ro_met rfl (Nat.le_of_ble_eq_true rfl) ?_
  intro p e s m below meth c ls C hR hr hlk hl
  have C : kx D cs p m c cX5_along 13 s _ RX5 := C
  have hx := C.1.1
  have hb := C.1.2.1
  have hl : lv_has ls 13 [(0, .ref X), (1, .int p1), (2, .int p2), (3, .int n), (4, .int ax)] := hl
  refine lv_aload_n hx hb dX5_along_0 rfl (lv_at hl 0 rfl) ?_
  refine lv_iload_n hx hb dX5_along_1 rfl (lv_at hl 1 rfl) ?_
  refine lv_iload_n hx hb dX5_along_2 rfl (lv_at hl 2 rfl) ?_
  refine ro_goI (ro_V (As := [.int p1, .int p2]) (rest := []) C hR st_X5_227 (c_X5_isPart l D cs _ X ad v F G hS nc hnc (by omega) p1 p2) hS.1 rfl rfl ⟨rfl, rfl, Nat.le_of_ble_eq_true rfl, Nat.le_of_ble_eq_true rfl⟩ rfl hl.1 rfl (Nat.le_of_ble_eq_true rfl) dX5_along_3 ⟨Nat.le_of_ble_eq_true rfl, Nat.le_of_ble_eq_true rfl⟩) (fun r_3 h_3 => ?_)
  refine lv_if_ne (tgt := 13) hx hb dX5_along_6 (by decide) (fun c_6 => ?_) (fun c_6 => ?_)
  · have c_6 : rPart v F p1 p2 = true := bz1 h_3 c_6
    obtain ⟨c0, q0, hc0, hq0m, hq02, rfl, rfl⟩ := rPart_nat c_6 hnc (by omega) hpm
    have hk2 := rK2_eq (a := c0) (b := q0) (by omega) (by omega)
    refine lv_iload_n hx hb dX5_along_13 rfl (lv_at hl 3 rfl) ?_
    refine lv_iconst (v := 0) hx hb dX5_along_14 (by decide) ?_
    refine lv_bipush (v := 64) hx hb dX5_along_15 (by decide) ?_
    refine ro_goI (ro_S (As := [.int n, .int 0, .int 64]) (rest := []) C hR st_X5_109 (c_X5_in l D cs _ n 0 64) ⟨rfl, rfl, Nat.le_of_ble_eq_true rfl, Nat.le_of_ble_eq_true rfl⟩ rfl hl.1 rfl (Nat.le_of_ble_eq_true rfl) dX5_along_17 ⟨Nat.le_of_ble_eq_true rfl, Nat.le_of_ble_eq_true rfl⟩) (fun r_17 h_17 => ?_)
    refine lv_if_eq (tgt := 33) hx hb dX5_along_20 (by decide) (fun c_20 => ?_) (fun c_20 => ?_)
    · have c_20 : ¬ (inB n 0 64 = true) := bz0 h_17 c_20
      refine lv_ldc2 (v := (-9000000000002)) hx hb C.1.2.2.2.1 (C.1.2.2.2.2 _ wm_513) dX5_along_33 ?_
      exact ro_lret C hr hlk (by simp [rAlong, c_6, c_20, hk2]) dX5_along_36
    · have c_20 : inB n 0 64 = true := bz1 h_17 c_20
      refine lv_iload hx hb dX5_along_23 (lv_at hl 4 rfl) ?_
      refine lv_iconst (v := 0) hx hb dX5_along_25 (by decide) ?_
      refine lv_iconst (v := 1) hx hb dX5_along_26 (by decide) ?_
      refine ro_goI (ro_S (As := [.int ax, .int 0, .int 1]) (rest := []) C hR st_X5_109 (c_X5_in l D cs _ ax 0 1) ⟨rfl, rfl, Nat.le_of_ble_eq_true rfl, Nat.le_of_ble_eq_true rfl⟩ rfl hl.1 rfl (Nat.le_of_ble_eq_true rfl) dX5_along_27 ⟨Nat.le_of_ble_eq_true rfl, Nat.le_of_ble_eq_true rfl⟩) (fun r_27 h_27 => ?_)
      refine lv_if_ne (tgt := 37) hx hb dX5_along_30 (by decide) (fun c_30 => ?_) (fun c_30 => ?_)
      · have c_30 : inB ax 0 1 = true := bz1 h_27 c_30
        refine lv_iconst (v := 2) hx hb dX5_along_37 (by decide) ?_
        refine lv_iload_n hx hb dX5_along_38 rfl (lv_at hl 1 rfl) ?_
        refine lv_imul hx hb dX5_along_39 ?_
        refine top_eq (y := nI (2 * c0)) (tn_mul rfl rfl) ?_
        refine lv_iload_n hx hb dX5_along_40 rfl (lv_at hl 2 rfl) ?_
        refine lv_iadd hx hb dX5_along_41 ?_
        refine top_eq (y := nI ((2 * c0) + q0)) (tn_add rfl rfl) ?_
        refine lv_istore (lv' := [(5, .int (nI ((2 * c0) + q0))), (0, .ref X), (1, .int (nI c0)), (2, .int (nI q0)), (3, .int n), (4, .int ax)]) hx hb dX5_along_42 hl (by decide) rfl (fun ls hl => ?_)
        refine lv_bipush (v := 64) hx hb dX5_along_44 (by decide) ?_
        refine lv_iload_n hx hb dX5_along_46 rfl (lv_at hl 4 rfl) ?_
        refine lv_isub hx hb dX5_along_47 ?_
        refine lv_i2l hx hb dX5_along_48 rfl ?_
        refine lv_lstore (lv' := [(6, .long ((64 - n).toInt64)), (5, .int (nI ((2 * c0) + q0))), (0, .ref X), (1, .int (nI c0)), (2, .int (nI q0)), (3, .int n), (4, .int ax)]) hx hb dX5_along_49 hl (by decide) rfl (fun ls hl => ?_)
        refine lv_lconst (v := 0) hx hb dX5_along_51 (by decide) ?_
        refine lv_lstore (lv' := [(8, .long 0), (6, .long ((64 - n).toInt64)), (5, .int (nI ((2 * c0) + q0))), (0, .ref X), (1, .int (nI c0)), (2, .int (nI q0)), (3, .int n), (4, .int ax)]) hx hb dX5_along_52 hl (by decide) rfl (fun ls hl => ?_)
        refine lv_iconst (v := 0) hx hb dX5_along_54 (by decide) ?_
        refine lv_istore (lv' := [(10, .int 0), (8, .long 0), (6, .long ((64 - n).toInt64)), (5, .int (nI ((2 * c0) + q0))), (0, .ref X), (1, .int (nI c0)), (2, .int (nI q0)), (3, .int n), (4, .int ax)]) hx hb dX5_along_55 hl (by decide) rfl (fun ls hl => ?_)
        refine W.loop (σ := Nat × Int64 × Array Slot) (fun ⟨i0, x, ls⟩ => F0 m 57 ls []) (fun ⟨i0, x, ls⟩ => (i0 ≤ 4) ∧ (x = alS F (2 * c0 + q0) n ax i0) ∧ lv_has ls 13 [(10, .int (nI i0)), (8, .long x), (6, .long ((64 - n).toInt64)), (5, .int (nI (2 * c0 + q0))), (0, .ref X), (1, .int (nI c0)), (2, .int (nI q0)), (3, .int n), (4, .int ax)]) (fun ⟨i0, x, ls⟩ => 4 - i0) ?_ (0, 0, _) ⟨by omega, rfl, lv_sub hl [0, 1, 2, 3, 4, 5, 6, 7, 8] rfl⟩ rfl
        intro ⟨i0, x, ls⟩ ⟨hi0, ex, hl⟩ ih_57
        show W _ _ _ _ _ _ _ _ _ _ _ _ _ _ _ (F0 m 57 ls [])
        have hl : lv_has ls 13 [(10, .int (nI i0)), (8, .long x), (6, .long ((64 - n).toInt64)), (5, .int (nI (2 * c0 + q0))), (0, .ref X), (1, .int (nI c0)), (2, .int (nI q0)), (3, .int n), (4, .int ax)] := hl
        refine lv_iload hx hb dX5_along_57 (lv_at hl 0 rfl) ?_
        refine lv_iconst (v := 4) hx hb dX5_along_59 (by decide) ?_
        refine lv_icmp_ge (tgt := 177) hx hb dX5_along_60 (by decide) (fun c_60 => ?_) (fun c_60 => ?_)
        · have c_60 := cle_t (a := 4) (b := i0) c_60 (by omega) (by omega)
          refine lv_lload hx hb dX5_along_177 (lv_at hl 1 rfl) ?_
          exact ro_lret C hr hlk (by rw [ex, rAlong, if_pos c_6, if_pos ⟨c_20, c_30⟩, hk2, show i0 = 4 by omega]) dX5_along_179
        · have c_60 := cle_f (a := 4) (b := i0) c_60 (by omega) (by omega)
          refine W.cutL (fun z => z = alW (64 - n).toInt64 n.toInt64 i0) (fun z => F0 m 129 ls (.long z :: [])) (fun z_129 hz_129 => ?_) (fun J_129 => ?_)
          · refine lv_lstore (lv' := [(11, .long z_129), (10, .int (nI i0)), (8, .long x), (6, .long ((64 - n).toInt64)), (5, .int (nI (2 * c0 + q0))), (0, .ref X), (1, .int (nI c0)), (2, .int (nI q0)), (3, .int n), (4, .int ax)]) hx hb dX5_along_129 hl (by decide) rfl (fun ls hl => ?_)
            refine lv_lload hx hb dX5_along_131 (lv_at hl 2 rfl) ?_
            refine lv_lload hx hb dX5_along_133 (lv_at hl 0 rfl) ?_
            refine W.cut (fun z => z = alV F (2 * c0 + q0) ax i0) (fun z => F0 m 166 ls (.int z :: [.long z_129, .long x])) (fun z_166 hz_166 => ?_) (fun J_166 => ?_)
            · refine lv_i2l hx hb dX5_along_166 rfl ?_
              refine lv_lmul hx hb dX5_along_167 ?_
              refine lv_ladd hx hb dX5_along_168 ?_
              refine lv_lstore (lv' := [(8, .long (x + (z_129 * z_166.toInt64))), (11, .long z_129), (10, .int (nI i0)), (6, .long ((64 - n).toInt64)), (5, .int (nI (2 * c0 + q0))), (0, .ref X), (1, .int (nI c0)), (2, .int (nI q0)), (3, .int n), (4, .int ax)]) hx hb dX5_along_169 hl (by decide) rfl (fun ls hl => ?_)
              refine lv_iinc (v := nI (i0 + 1)) (lv' := [(10, .int (nI (i0 + 1))), (8, .long (x + (z_129 * z_166.toInt64))), (11, .long z_129), (6, .long ((64 - n).toInt64)), (5, .int (nI (2 * c0 + q0))), (0, .ref X), (1, .int (nI c0)), (2, .int (nI q0)), (3, .int n), (4, .int ax)]) hx hb dX5_along_171 hl (k := 2) rfl (by exact tn_add rfl rfl) (by decide) rfl (fun ls hl => ?_)
              refine lv_goto (tgt := 57) hx hb dX5_along_174 (by decide) ?_
              exact ih_57 ((i0 + 1), x + (z_129 * z_166.toInt64), _) ⟨by omega, by rw [alS, ← ex, ← hz_129, ← hz_166], lv_sub hl [0, 1, 3, 4, 5, 6, 7, 8, 9] rfl⟩ (by show 4 - (i0 + 1) < 4 - i0; omega)
            · refine lv_iload hx hb dX5_along_135 (lv_at hl 9 rfl) ?_
              refine lv_if_ne (tgt := 151) hx hb dX5_along_137 (by decide) (fun c_137 => ?_) (fun c_137 => ?_)
              · refine lv_aload_n hx hb dX5_along_151 rfl (lv_at hl 5 rfl) ?_
                refine lv_iload hx hb dX5_along_152 (lv_at hl 4 rfl) ?_
                refine lv_aload_n hx hb dX5_along_154 rfl (lv_at hl 5 rfl) ?_
                refine gf_X5_86 C hR hS.1 rfl dX5_along_155 ?_
                refine lv_iload hx hb dX5_along_158 (lv_at hl 4 rfl) ?_
                refine r_ialdN (k := (2 * c0 + q0)) C hR (RS.i hS 30 80 rfl rfl) (by omega) (by decide) rfl dX5_along_160 ?_
                refine lv_iload hx hb dX5_along_161 (lv_at hl 1 rfl) ?_
                refine ro_goI (ro_V (As := [.int (nI (2 * c0 + q0)), .int (F 30 (2 * c0 + q0)), .int (nI i0)]) (rest := [.long z_129, .long x]) C hR st_X5_194 (c_X5_py l D cs _ X ad v F G hS (2 * c0 + q0) (by omega) (F 30 (2 * c0 + q0)) (nI i0)) hS.1 rfl rfl ⟨rfl, rfl, Nat.le_of_ble_eq_true rfl, Nat.le_of_ble_eq_true rfl⟩ rfl hl.1 rfl (Nat.le_of_ble_eq_true rfl) dX5_along_163 ⟨Nat.le_of_ble_eq_true rfl, Nat.le_of_ble_eq_true rfl⟩) (fun r_163 h_163 => ?_)
                exact J_166 _ (by rw [alV, if_neg c_137]; exact h_163)
              · refine lv_aload_n hx hb dX5_along_140 rfl (lv_at hl 5 rfl) ?_
                refine lv_iload hx hb dX5_along_141 (lv_at hl 4 rfl) ?_
                refine lv_iload hx hb dX5_along_143 (lv_at hl 1 rfl) ?_
                refine ro_goI (ro_V (As := [.int (nI (2 * c0 + q0)), .int (nI i0)]) (rest := [.long z_129, .long x]) C hR st_X5_191 (c_X5_px l D cs _ X ad v F G hS (2 * c0 + q0) (by omega) (nI i0)) hS.1 rfl rfl ⟨rfl, rfl, Nat.le_of_ble_eq_true rfl, Nat.le_of_ble_eq_true rfl⟩ rfl hl.1 rfl (Nat.le_of_ble_eq_true rfl) dX5_along_145 ⟨Nat.le_of_ble_eq_true rfl, Nat.le_of_ble_eq_true rfl⟩) (fun r_145 h_145 => ?_)
                refine lv_goto (tgt := 166) hx hb dX5_along_148 (by decide) ?_
                exact J_166 _ (by rw [alV, if_pos c_137]; exact h_145)
          · refine lv_iload hx hb dX5_along_63 (lv_at hl 0 rfl) ?_
            refine lv_if_ne (tgt := 79) hx hb dX5_along_65 (by decide) (fun c_65 => ?_) (fun c_65 => ?_)
            · have c_65 := ceq_f (a := i0) (b := 0) c_65 (by omega) (by omega)
              refine lv_iload hx hb dX5_along_79 (lv_at hl 0 rfl) ?_
              refine lv_iconst (v := 1) hx hb dX5_along_81 (by decide) ?_
              refine lv_icmp_ne (tgt := 100) hx hb dX5_along_82 (by decide) (fun c_82 => ?_) (fun c_82 => ?_)
              · have c_82 := ceq_f (a := i0) (b := 1) c_82 (by omega) (by omega)
                refine lv_iload hx hb dX5_along_100 (lv_at hl 0 rfl) ?_
                refine lv_iconst (v := 2) hx hb dX5_along_102 (by decide) ?_
                refine lv_icmp_ne (tgt := 121) hx hb dX5_along_103 (by decide) (fun c_103 => ?_) (fun c_103 => ?_)
                · have c_103 := ceq_f (a := i0) (b := 2) c_103 (by omega) (by omega)
                  refine lv_iload_n hx hb dX5_along_121 rfl (lv_at hl 7 rfl) ?_
                  refine lv_i2l hx hb dX5_along_122 rfl ?_
                  refine lv_iload_n hx hb dX5_along_123 rfl (lv_at hl 7 rfl) ?_
                  refine lv_i2l hx hb dX5_along_124 rfl ?_
                  refine lv_lmul hx hb dX5_along_125 ?_
                  refine lv_iload_n hx hb dX5_along_126 rfl (lv_at hl 7 rfl) ?_
                  refine lv_i2l hx hb dX5_along_127 rfl ?_
                  refine lv_lmul hx hb dX5_along_128 ?_
                  exact J_129 _ (by unfold alW; rw [if_neg c_65, if_neg c_82, if_neg c_103])
                · have c_103 := ceq_t (a := i0) (b := 2) c_103 (by omega) (by omega)
                  refine lv_ldc2 (v := 3) hx hb C.1.2.2.2.1 (C.1.2.2.2.2 _ wm_514) dX5_along_106 ?_
                  refine lv_lload hx hb dX5_along_109 (lv_at hl 2 rfl) ?_
                  refine lv_lmul hx hb dX5_along_111 ?_
                  refine lv_iload_n hx hb dX5_along_112 rfl (lv_at hl 7 rfl) ?_
                  refine lv_i2l hx hb dX5_along_113 rfl ?_
                  refine lv_lmul hx hb dX5_along_114 ?_
                  refine lv_iload_n hx hb dX5_along_115 rfl (lv_at hl 7 rfl) ?_
                  refine lv_i2l hx hb dX5_along_116 rfl ?_
                  refine lv_lmul hx hb dX5_along_117 ?_
                  refine lv_goto (tgt := 129) hx hb dX5_along_118 (by decide) ?_
                  exact J_129 _ (by subst c_103; rfl)
              · have c_82 := ceq_t (a := i0) (b := 1) c_82 (by omega) (by omega)
                refine lv_ldc2 (v := 3) hx hb C.1.2.2.2.1 (C.1.2.2.2.2 _ wm_514) dX5_along_85 ?_
                refine lv_lload hx hb dX5_along_88 (lv_at hl 2 rfl) ?_
                refine lv_lmul hx hb dX5_along_90 ?_
                refine lv_lload hx hb dX5_along_91 (lv_at hl 2 rfl) ?_
                refine lv_lmul hx hb dX5_along_93 ?_
                refine lv_iload_n hx hb dX5_along_94 rfl (lv_at hl 7 rfl) ?_
                refine lv_i2l hx hb dX5_along_95 rfl ?_
                refine lv_lmul hx hb dX5_along_96 ?_
                refine lv_goto (tgt := 129) hx hb dX5_along_97 (by decide) ?_
                exact J_129 _ (by subst c_82; rfl)
            · have c_65 := ceq_t (a := i0) (b := 0) c_65 (by omega) (by omega)
              refine lv_lload hx hb dX5_along_68 (lv_at hl 2 rfl) ?_
              refine lv_lload hx hb dX5_along_70 (lv_at hl 2 rfl) ?_
              refine lv_lmul hx hb dX5_along_72 ?_
              refine lv_lload hx hb dX5_along_73 (lv_at hl 2 rfl) ?_
              refine lv_lmul hx hb dX5_along_75 ?_
              refine lv_goto (tgt := 129) hx hb dX5_along_76 (by decide) ?_
              exact J_129 _ (by subst c_65; rfl)
      · have c_30 : ¬ (inB ax 0 1 = true) := bz0 h_27 c_30
        refine lv_ldc2 (v := (-9000000000002)) hx hb C.1.2.2.2.1 (C.1.2.2.2.2 _ wm_513) dX5_along_33 ?_
        exact ro_lret C hr hlk (by simp [rAlong, c_6, c_20, c_30, hk2]) dX5_along_36
  · have c_6 : ¬ (rPart v F p1 p2 = true) := bz0 h_3 c_6
    refine lv_ldc2 (v := (-9000000000001)) hx hb C.1.2.2.2.1 (C.1.2.2.2.2 _ wm_512) dX5_along_9 ?_
    exact ro_lret C hr hlk (by simp [rAlong, c_6]) dX5_along_12

def rClear (v : Nat → Int32) : Nat → Int32 := va_up (va_up (va_up (va_up (va_up v 0 0) 2 0) 7 0) 13 0) 19 0
set_option maxHeartbeats 4000000 in
set_option maxRecDepth 100000 in
theorem c_X5_clear (l : Launch) (D : va_G) (cs : Nat → ClassId) (A : Nat → Prop) (M : wM) (X : Nat) (ad : Nat → Nat) (v : Nat → Int32) (F : Nat → Nat → Int32) (G : Nat → Nat → Int64) (hS : RS cs M X ad v F G)  : Met l yX5_clear (mw yX5_clear cX5_clear 2 (some .int)) { frames := 0, cells := 0, slots := 0, locals := 0 } (wrP D cs A M [.ref X]) (va_Qi (fun r M' => RS cs M' X ad (rClear v) F G ∧ r = v 19) (wrB D A) A) 0 0 A := by
  refine wr_met rfl (Nat.le_of_ble_eq_true rfl) ?_
  intro p e s m below meth c ls C hW hr hlk hini hl
  have C : kx D cs p m c cX5_clear 2 s _ RX5 := C
  have hx := C.1.1
  have hb := C.1.2.1
  have hl : lv_has ls 2 [(0, .ref X)] := hl
  refine lv_aload_n hx hb dX5_clear_0 rfl (lv_at hl 0 rfl) ?_
  refine gf_X5_136 C hW.rd hS.1 rfl dX5_clear_1 ?_
  refine lv_istore_n (lv' := [(1, .int (v 19)), (0, .ref X)]) hx hb dX5_clear_4 rfl hl (by decide) rfl (fun ls hl => ?_)
  refine lv_aload_n hx hb dX5_clear_5 rfl (lv_at hl 1 rfl) ?_
  refine lv_iconst (v := 0) hx hb dX5_clear_6 (by decide) ?_
  refine pf_X5_105 (fs2 := rFl ad (va_up v 0 0)) C hW hS.1 (Nat.le_of_ble_eq_true rfl) rfl dX5_clear_7 (fun H locs hW => ?_)
  obtain ⟨M, v_1, ev_1, hS, hW⟩ : ∃ (M : wM) (w0 : Nat → Int32), w0 = va_up v 0 0 ∧ RS cs M X ad w0 F G ∧ wd D A M s.heap H locs := ⟨_, _, rfl, RS.setV hS 0 rfl 0, hW⟩
  refine lv_aload_n hx hb dX5_clear_10 rfl (lv_at hl 1 rfl) ?_
  refine lv_iconst (v := 0) hx hb dX5_clear_11 (by decide) ?_
  refine pf_X5_113 (fs2 := rFl ad (va_up v_1 2 0)) C hW hS.1 (Nat.le_of_ble_eq_true rfl) rfl dX5_clear_12 (fun H locs hW => ?_)
  obtain ⟨M, v_2, ev_2, hS, hW⟩ : ∃ (M : wM) (w0 : Nat → Int32), w0 = va_up v_1 2 0 ∧ RS cs M X ad w0 F G ∧ wd D A M s.heap H locs := ⟨_, _, rfl, RS.setV hS 2 rfl 0, hW⟩
  refine lv_aload_n hx hb dX5_clear_15 rfl (lv_at hl 1 rfl) ?_
  refine lv_iconst (v := 0) hx hb dX5_clear_16 (by decide) ?_
  refine pf_X5_120 (fs2 := rFl ad (va_up v_2 7 0)) C hW hS.1 (Nat.le_of_ble_eq_true rfl) rfl dX5_clear_17 (fun H locs hW => ?_)
  obtain ⟨M, v_3, ev_3, hS, hW⟩ : ∃ (M : wM) (w0 : Nat → Int32), w0 = va_up v_2 7 0 ∧ RS cs M X ad w0 F G ∧ wd D A M s.heap H locs := ⟨_, _, rfl, RS.setV hS 7 rfl 0, hW⟩
  refine lv_aload_n hx hb dX5_clear_20 rfl (lv_at hl 1 rfl) ?_
  refine lv_iconst (v := 0) hx hb dX5_clear_21 (by decide) ?_
  refine pf_X5_123 (fs2 := rFl ad (va_up v_3 13 0)) C hW hS.1 (Nat.le_of_ble_eq_true rfl) rfl dX5_clear_22 (fun H locs hW => ?_)
  obtain ⟨M, v_4, ev_4, hS, hW⟩ : ∃ (M : wM) (w0 : Nat → Int32), w0 = va_up v_3 13 0 ∧ RS cs M X ad w0 F G ∧ wd D A M s.heap H locs := ⟨_, _, rfl, RS.setV hS 13 rfl 0, hW⟩
  refine lv_aload_n hx hb dX5_clear_25 rfl (lv_at hl 1 rfl) ?_
  refine lv_iconst (v := 0) hx hb dX5_clear_26 (by decide) ?_
  refine pf_X5_136 (fs2 := rFl ad (va_up v_4 19 0)) C hW hS.1 (Nat.le_of_ble_eq_true rfl) rfl dX5_clear_27 (fun H locs hW => ?_)
  obtain ⟨M, v_5, ev_5, hS, hW⟩ : ∃ (M : wM) (w0 : Nat → Int32), w0 = va_up v_4 19 0 ∧ RS cs M X ad w0 F G ∧ wd D A M s.heap H locs := ⟨_, _, rfl, RS.setV hS 19 rfl 0, hW⟩
  refine lv_iload_n hx hb dX5_clear_30 rfl (lv_at hl 0 rfl) ?_
  exact wr_iret C hW hr hlk (⟨by subst ev_5 ev_4 ev_3 ev_2 ev_1; exact hS, rfl⟩) dX5_clear_31


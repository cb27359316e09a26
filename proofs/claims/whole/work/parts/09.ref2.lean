def rLine (v : Nat → Int32) (F : Nat → Nat → Int32) (nl : Nat) (w : Int32) : Int32 × (Nat → Int32) × (Nat → Nat → Int32) := if inB w 100 1000 = true then (if nl = 4 then (-9004, v, F) else (nI nl, va_up v 0 (nI (nl + 1)), sF F 1 nl w)) else (-9002, v, F)
set_option maxHeartbeats 4000000 in
set_option maxRecDepth 100000 in
theorem c_X5_line (l : Launch) (D : va_G) (cs : Nat → ClassId) (A : Nat → Prop) (M : wM) (X : Nat) (ad : Nat → Nat) (v : Nat → Int32) (F : Nat → Nat → Int32) (G : Nat → Nat → Int64) (hS : RS cs M X ad v F G) (nl : Nat) (hnl : v 0 = nI nl) (hl4 : nl ≤ 4) (w : Int32) : Met l yX5_line (mw yX5_line cX5_line 2 (some .int)) { frames := 1, cells := 0, slots := 0, locals := 22 } (wrP D cs A M [.ref X, .int w]) (va_Qi (fun r M' => ∃ v' F', RS cs M' X ad v' F' G ∧ (r, v', F') = rLine v F nl w) (wrB D A) A) 0 0 A := by
  refine wr_met rfl (Nat.le_of_ble_eq_true rfl) ?_
  intro p e s m below meth c ls C hW hr hlk hini hl
  have C : kx D cs p m c cX5_line 2 s _ RX5 := C
  have hx := C.1.1
  have hb := C.1.2.1
  have hl : lv_has ls 2 [(0, .ref X), (1, .int w)] := hl
  refine lv_iload_n hx hb dX5_line_0 rfl (lv_at hl 1 rfl) ?_
  refine lv_bipush (v := 100) hx hb dX5_line_1 (by decide) ?_
  refine lv_sipush (v := 1000) hx hb dX5_line_3 (by decide) ?_
  refine ro_goI (ro_S (As := [.int w, .int 100, .int 1000]) (rest := []) C hW.rd st_X5_109 (c_X5_in l D cs _ w 100 1000) ⟨rfl, rfl, Nat.le_of_ble_eq_true rfl, Nat.le_of_ble_eq_true rfl⟩ rfl hl.1 rfl (Nat.le_of_ble_eq_true rfl) dX5_line_6 ⟨Nat.le_of_ble_eq_true rfl, Nat.le_of_ble_eq_true rfl⟩) (fun r_6 h_6 => ?_)
  refine lv_if_ne (tgt := 16) hx hb dX5_line_9 (by decide) (fun c_9 => ?_) (fun c_9 => ?_)
  · have c_9 : inB w 100 1000 = true := bz1 h_6 c_9
    refine lv_aload_n hx hb dX5_line_16 rfl (lv_at hl 0 rfl) ?_
    refine gf_X5_105 C hW.rd hS.1 rfl dX5_line_17 ?_
    refine top_eq (y := nI nl) hnl ?_
    refine lv_iconst (v := 4) hx hb dX5_line_20 (by decide) ?_
    refine lv_icmp_ne (tgt := 28) hx hb dX5_line_21 (by decide) (fun c_21 => ?_) (fun c_21 => ?_)
    · have c_21 := ceq_f (a := nl) (b := 4) c_21 (by omega) (by omega)
      refine lv_aload_n hx hb dX5_line_28 rfl (lv_at hl 0 rfl) ?_
      refine gf_X5_7 C hW.rd hS.1 rfl dX5_line_29 ?_
      refine lv_aload_n hx hb dX5_line_32 rfl (lv_at hl 0 rfl) ?_
      refine gf_X5_105 C hW.rd hS.1 rfl dX5_line_33 ?_
      refine top_eq (y := nI nl) hnl ?_
      refine lv_iload_n hx hb dX5_line_36 rfl (lv_at hl 1 rfl) ?_
      refine w_iastN (k := nl) C hW (RS.i hS 1 4 rfl rfl) (by omega) (by decide) rfl dX5_line_37 (fun H locs hW => ?_)
      obtain ⟨M, F_1, eF_1, hS, hW⟩ : ∃ (M : wM) (w0 : Nat → Nat → Int32), w0 = sF F 1 nl w ∧ RS cs M X ad v w0 G ∧ wd D A M s.heap H locs := ⟨_, _, rfl, RS.setI hS 1 rfl nl w, hW⟩
      refine lv_aload_n hx hb dX5_line_38 rfl (lv_at hl 0 rfl) ?_
      refine lv_dup hx hb dX5_line_39 rfl ?_
      refine gf_X5_105 C hW.rd hS.1 rfl dX5_line_40 ?_
      refine top_eq (y := nI nl) hnl ?_
      refine lv_iconst (v := 1) hx hb dX5_line_43 (by decide) ?_
      refine lv_iadd hx hb dX5_line_44 ?_
      refine top_eq (y := nI (nl + 1)) (tn_add rfl rfl) ?_
      refine pf_X5_105 (fs2 := rFl ad (va_up v 0 (nI (nl + 1)))) C hW hS.1 (Nat.le_of_ble_eq_true rfl) rfl dX5_line_45 (fun H locs hW => ?_)
      obtain ⟨M, v_2, ev_2, hS, hW⟩ : ∃ (M : wM) (w0 : Nat → Int32), w0 = va_up v 0 (nI (nl + 1)) ∧ RS cs M X ad w0 F_1 G ∧ wd D A M s.heap H locs := ⟨_, _, rfl, RS.setV hS 0 rfl (nI (nl + 1)), hW⟩
      refine lv_aload_n hx hb dX5_line_48 rfl (lv_at hl 0 rfl) ?_
      refine gf_X5_105 C hW.rd hS.1 rfl dX5_line_49 ?_
      refine lv_iconst (v := 1) hx hb dX5_line_52 (by decide) ?_
      refine lv_isub hx hb dX5_line_53 ?_
      exact wr_iret C hW hr hlk (⟨_, _, hS, by subst ev_2 eF_1; simp [rLine, c_9, c_21, va_up, nI_pred]⟩) dX5_line_54
    · have c_21 := ceq_t (a := nl) (b := 4) c_21 (by omega) (by omega)
      refine lv_sipush (v := (-9004)) hx hb dX5_line_24 (by decide) ?_
      exact wr_iret C hW hr hlk (⟨_, _, hS, by simp [rLine, c_9, c_21, va_up, nI_pred]⟩) dX5_line_27
  · have c_9 : ¬ (inB w 100 1000 = true) := bz0 h_6 c_9
    refine lv_sipush (v := (-9002)) hx hb dX5_line_12 (by decide) ?_
    exact wr_iret C hW hr hlk (⟨_, _, hS, by simp [rLine, c_9, va_up, nI_pred]⟩) dX5_line_15

def rNote (v : Nat → Int32) (F : Nat → Nat → Int32) (nn : Nat) (ln x y up : Int32) : Int32 × (Nat → Int32) × (Nat → Nat → Int32) := if inB ln 0 (v 0 - 1) = true then (if inB x 0 (F 1 ln.toNatClampNeg) = true ∧ inB y (-100) 100 = true then (if nn = 60 then (-9004, v, F) else (nI nn, va_up v 2 (nI (nn + 1)), sF (sF (sF (sF F 3 nn ln) 4 nn x) 5 nn y) 6 nn up)) else (-9002, v, F)) else (-9001, v, F)
set_option maxHeartbeats 4000000 in
set_option maxRecDepth 100000 in
theorem c_X5_note (l : Launch) (D : va_G) (cs : Nat → ClassId) (A : Nat → Prop) (M : wM) (X : Nat) (ad : Nat → Nat) (v : Nat → Int32) (F : Nat → Nat → Int32) (G : Nat → Nat → Int64) (hS : RS cs M X ad v F G) (nl nn : Nat) (hnl : v 0 = nI nl) (hl4 : nl ≤ 4) (hnn : v 2 = nI nn) (hn60 : nn ≤ 60) (p1 x y up : Int32) (hup : up = 0 ∨ up = 1) : Met l yX5_note (mw yX5_note cX5_note 5 (some .int)) { frames := 2, cells := 0, slots := 0, locals := 43 } (wrP D cs A M [.ref X, .int p1, .int x, .int y, .int up]) (va_Qi (fun r M' => ∃ v' F', RS cs M' X ad v' F' G ∧ (r, v', F') = rNote v F nn p1 x y up) (wrB D A) A) 0 0 A := by
  refine wr_met rfl (Nat.le_of_ble_eq_true rfl) ?_
  intro p e s m below meth c ls C hW hr hlk hini hl
  have C : kx D cs p m c cX5_note 5 s _ RX5 := C
  have hx := C.1.1
  have hb := C.1.2.1
  have hl : lv_has ls 5 [(0, .ref X), (1, .int p1), (2, .int x), (3, .int y), (4, .int up)] := hl
  refine lv_aload_n hx hb dX5_note_0 rfl (lv_at hl 0 rfl) ?_
  refine lv_iload_n hx hb dX5_note_1 rfl (lv_at hl 1 rfl) ?_
  refine ro_goI (ro_V (As := [.int p1]) (rest := []) C hW.rd st_X5_116 (c_X5_isLine l D cs _ X ad v F G hS p1) hS.1 rfl rfl ⟨rfl, rfl, Nat.le_of_ble_eq_true rfl, Nat.le_of_ble_eq_true rfl⟩ rfl hl.1 rfl (Nat.le_of_ble_eq_true rfl) dX5_note_2 ⟨Nat.le_of_ble_eq_true rfl, Nat.le_of_ble_eq_true rfl⟩) (fun r_2 h_2 => ?_)
  refine lv_if_ne (tgt := 12) hx hb dX5_note_5 (by decide) (fun c_5 => ?_) (fun c_5 => ?_)
  · have c_5 : inB p1 0 (v 0 - 1) = true := bz1 h_2 c_5
    obtain ⟨j, hjj, rfl⟩ := inP_nat c_5 hnl (by omega)
    have hclj := nI_clamp (n := j) (by omega)
    refine lv_iload_n hx hb dX5_note_12 rfl (lv_at hl 2 rfl) ?_
    refine lv_iconst (v := 0) hx hb dX5_note_13 (by decide) ?_
    refine lv_aload_n hx hb dX5_note_14 rfl (lv_at hl 0 rfl) ?_
    refine gf_X5_7 C hW.rd hS.1 rfl dX5_note_15 ?_
    refine lv_iload_n hx hb dX5_note_18 rfl (lv_at hl 1 rfl) ?_
    refine r_ialdN (k := j) C hW.rd (RS.i hS 1 4 rfl rfl) (by omega) (by decide) rfl dX5_note_19 ?_
    refine ro_goI (ro_S (As := [.int x, .int 0, .int (F 1 j)]) (rest := []) C hW.rd st_X5_109 (c_X5_in l D cs _ x 0 (F 1 j)) ⟨rfl, rfl, Nat.le_of_ble_eq_true rfl, Nat.le_of_ble_eq_true rfl⟩ rfl hl.1 rfl (Nat.le_of_ble_eq_true rfl) dX5_note_20 ⟨Nat.le_of_ble_eq_true rfl, Nat.le_of_ble_eq_true rfl⟩) (fun r_20 h_20 => ?_)
    refine lv_if_eq (tgt := 37) hx hb dX5_note_23 (by decide) (fun c_23 => ?_) (fun c_23 => ?_)
    · have c_23 : ¬ (inB x 0 (F 1 j) = true) := bz0 h_20 c_23
      refine lv_sipush (v := (-9002)) hx hb dX5_note_37 (by decide) ?_
      exact wr_iret C hW hr hlk (⟨_, _, hS, by simp [rNote, c_5, c_23, hclj, va_up, nI_pred]⟩) dX5_note_40
    · have c_23 : inB x 0 (F 1 j) = true := bz1 h_20 c_23
      refine lv_iload_n hx hb dX5_note_26 rfl (lv_at hl 3 rfl) ?_
      refine lv_bipush (v := (-100)) hx hb dX5_note_27 (by decide) ?_
      refine lv_bipush (v := 100) hx hb dX5_note_29 (by decide) ?_
      refine ro_goI (ro_S (As := [.int y, .int (-100), .int 100]) (rest := []) C hW.rd st_X5_109 (c_X5_in l D cs _ y (-100) 100) ⟨rfl, rfl, Nat.le_of_ble_eq_true rfl, Nat.le_of_ble_eq_true rfl⟩ rfl hl.1 rfl (Nat.le_of_ble_eq_true rfl) dX5_note_31 ⟨Nat.le_of_ble_eq_true rfl, Nat.le_of_ble_eq_true rfl⟩) (fun r_31 h_31 => ?_)
      refine lv_if_ne (tgt := 41) hx hb dX5_note_34 (by decide) (fun c_34 => ?_) (fun c_34 => ?_)
      · have c_34 : inB y (-100) 100 = true := bz1 h_31 c_34
        refine lv_aload_n hx hb dX5_note_41 rfl (lv_at hl 0 rfl) ?_
        refine gf_X5_113 C hW.rd hS.1 rfl dX5_note_42 ?_
        refine top_eq (y := nI nn) hnn ?_
        refine lv_bipush (v := 60) hx hb dX5_note_45 (by decide) ?_
        refine lv_icmp_ne (tgt := 54) hx hb dX5_note_47 (by decide) (fun c_47 => ?_) (fun c_47 => ?_)
        · have c_47 := ceq_f (a := nn) (b := 60) c_47 (by omega) (by omega)
          refine lv_aload_n hx hb dX5_note_54 rfl (lv_at hl 0 rfl) ?_
          refine gf_X5_13 C hW.rd hS.1 rfl dX5_note_55 ?_
          refine lv_aload_n hx hb dX5_note_58 rfl (lv_at hl 0 rfl) ?_
          refine gf_X5_113 C hW.rd hS.1 rfl dX5_note_59 ?_
          refine top_eq (y := nI nn) hnn ?_
          refine lv_iload_n hx hb dX5_note_62 rfl (lv_at hl 1 rfl) ?_
          refine w_iastN (k := nn) C hW (RS.i hS 3 60 rfl rfl) (by omega) (by decide) rfl dX5_note_63 (fun H locs hW => ?_)
          obtain ⟨M, F_1, eF_1, hS, hW⟩ : ∃ (M : wM) (w0 : Nat → Nat → Int32), w0 = sF F 3 nn (nI j) ∧ RS cs M X ad v w0 G ∧ wd D A M s.heap H locs := ⟨_, _, rfl, RS.setI hS 3 rfl nn (nI j), hW⟩
          refine lv_aload_n hx hb dX5_note_64 rfl (lv_at hl 0 rfl) ?_
          refine gf_X5_16 C hW.rd hS.1 rfl dX5_note_65 ?_
          refine lv_aload_n hx hb dX5_note_68 rfl (lv_at hl 0 rfl) ?_
          refine gf_X5_113 C hW.rd hS.1 rfl dX5_note_69 ?_
          refine top_eq (y := nI nn) hnn ?_
          refine lv_iload_n hx hb dX5_note_72 rfl (lv_at hl 2 rfl) ?_
          refine w_iastN (k := nn) C hW (RS.i hS 4 60 rfl rfl) (by omega) (by decide) rfl dX5_note_73 (fun H locs hW => ?_)
          obtain ⟨M, F_2, eF_2, hS, hW⟩ : ∃ (M : wM) (w0 : Nat → Nat → Int32), w0 = sF F_1 4 nn x ∧ RS cs M X ad v w0 G ∧ wd D A M s.heap H locs := ⟨_, _, rfl, RS.setI hS 4 rfl nn x, hW⟩
          refine lv_aload_n hx hb dX5_note_74 rfl (lv_at hl 0 rfl) ?_
          refine gf_X5_19 C hW.rd hS.1 rfl dX5_note_75 ?_
          refine lv_aload_n hx hb dX5_note_78 rfl (lv_at hl 0 rfl) ?_
          refine gf_X5_113 C hW.rd hS.1 rfl dX5_note_79 ?_
          refine top_eq (y := nI nn) hnn ?_
          refine lv_iload_n hx hb dX5_note_82 rfl (lv_at hl 3 rfl) ?_
          refine w_iastN (k := nn) C hW (RS.i hS 5 60 rfl rfl) (by omega) (by decide) rfl dX5_note_83 (fun H locs hW => ?_)
          obtain ⟨M, F_3, eF_3, hS, hW⟩ : ∃ (M : wM) (w0 : Nat → Nat → Int32), w0 = sF F_2 5 nn y ∧ RS cs M X ad v w0 G ∧ wd D A M s.heap H locs := ⟨_, _, rfl, RS.setI hS 5 rfl nn y, hW⟩
          refine lv_aload_n hx hb dX5_note_84 rfl (lv_at hl 0 rfl) ?_
          refine gf_X5_22 C hW.rd hS.1 rfl dX5_note_85 ?_
          refine lv_aload_n hx hb dX5_note_88 rfl (lv_at hl 0 rfl) ?_
          refine gf_X5_113 C hW.rd hS.1 rfl dX5_note_89 ?_
          refine top_eq (y := nI nn) hnn ?_
          refine lv_iload hx hb dX5_note_92 (lv_at hl 4 rfl) ?_
          refine w_zastN (k := nn) C hW (RS.z hS 6 60 rfl rfl) (by omega) (by decide) hup rfl dX5_note_94 (fun H locs hW => ?_)
          obtain ⟨M, F_4, eF_4, hS, hW⟩ : ∃ (M : wM) (w0 : Nat → Nat → Int32), w0 = sF F_3 6 nn up ∧ RS cs M X ad v w0 G ∧ wd D A M s.heap H locs := ⟨_, _, rfl, RS.setZ hS 6 rfl nn up, hW⟩
          refine lv_aload_n hx hb dX5_note_95 rfl (lv_at hl 0 rfl) ?_
          refine lv_dup hx hb dX5_note_96 rfl ?_
          refine gf_X5_113 C hW.rd hS.1 rfl dX5_note_97 ?_
          refine top_eq (y := nI nn) hnn ?_
          refine lv_iconst (v := 1) hx hb dX5_note_100 (by decide) ?_
          refine lv_iadd hx hb dX5_note_101 ?_
          refine top_eq (y := nI (nn + 1)) (tn_add rfl rfl) ?_
          refine pf_X5_113 (fs2 := rFl ad (va_up v 2 (nI (nn + 1)))) C hW hS.1 (Nat.le_of_ble_eq_true rfl) rfl dX5_note_102 (fun H locs hW => ?_)
          obtain ⟨M, v_5, ev_5, hS, hW⟩ : ∃ (M : wM) (w0 : Nat → Int32), w0 = va_up v 2 (nI (nn + 1)) ∧ RS cs M X ad w0 F_4 G ∧ wd D A M s.heap H locs := ⟨_, _, rfl, RS.setV hS 2 rfl (nI (nn + 1)), hW⟩
          refine lv_aload_n hx hb dX5_note_105 rfl (lv_at hl 0 rfl) ?_
          refine gf_X5_113 C hW.rd hS.1 rfl dX5_note_106 ?_
          refine lv_iconst (v := 1) hx hb dX5_note_109 (by decide) ?_
          refine lv_isub hx hb dX5_note_110 ?_
          exact wr_iret C hW hr hlk (⟨_, _, hS, by subst ev_5 eF_4 eF_3 eF_2 eF_1; simp [rNote, c_5, c_23, c_34, c_47, hclj, va_up, nI_pred]⟩) dX5_note_111
        · have c_47 := ceq_t (a := nn) (b := 60) c_47 (by omega) (by omega)
          refine lv_sipush (v := (-9004)) hx hb dX5_note_50 (by decide) ?_
          exact wr_iret C hW hr hlk (⟨_, _, hS, by simp [rNote, c_5, c_23, c_34, c_47, hclj, va_up, nI_pred]⟩) dX5_note_53
      · have c_34 : ¬ (inB y (-100) 100 = true) := bz0 h_31 c_34
        refine lv_sipush (v := (-9002)) hx hb dX5_note_37 (by decide) ?_
        exact wr_iret C hW hr hlk (⟨_, _, hS, by simp [rNote, c_5, c_23, c_34, hclj, va_up, nI_pred]⟩) dX5_note_40
  · have c_5 : ¬ (inB p1 0 (v 0 - 1) = true) := bz0 h_2 c_5
    refine lv_sipush (v := (-9001)) hx hb dX5_note_8 (by decide) ?_
    exact wr_iret C hW hr hlk (⟨_, _, hS, by simp [rNote, c_5, va_up, nI_pred]⟩) dX5_note_11

def rMark (v : Nat → Int32) (F : Nat → Nat → Int32) (nm : Nat) (ln x y w h : Int32) : Int32 × (Nat → Int32) × (Nat → Nat → Int32) := if inB ln 0 (v 0 - 1) = true then (if inB x 0 (F 1 ln.toNatClampNeg) = true ∧ inB y (-200) 200 = true ∧ inB w 1 200 = true ∧ inB h 1 200 = true then (if nm = 40 then (-9004, v, F) else (nI (nm + 1), va_up v 7 (nI (nm + 1)), sF (sF (sF (sF (sF F 8 nm ln) 9 nm x) 10 nm y) 11 nm w) 12 nm h)) else (-9002, v, F)) else (-9001, v, F)
set_option maxHeartbeats 4000000 in
set_option maxRecDepth 100000 in
theorem c_X5_mark (l : Launch) (D : va_G) (cs : Nat → ClassId) (A : Nat → Prop) (M : wM) (X : Nat) (ad : Nat → Nat) (v : Nat → Int32) (F : Nat → Nat → Int32) (G : Nat → Nat → Int64) (hS : RS cs M X ad v F G) (nl nm : Nat) (hnl : v 0 = nI nl) (hl4 : nl ≤ 4) (hnm : v 7 = nI nm) (hn40 : nm ≤ 40) (p1 x y w h : Int32) : Met l yX5_mark (mw yX5_mark cX5_mark 6 (some .int)) { frames := 2, cells := 0, slots := 0, locals := 43 } (wrP D cs A M [.ref X, .int p1, .int x, .int y, .int w, .int h]) (va_Qi (fun r M' => ∃ v' F', RS cs M' X ad v' F' G ∧ (r, v', F') = rMark v F nm p1 x y w h) (wrB D A) A) 0 0 A := by
  refine wr_met rfl (Nat.le_of_ble_eq_true rfl) ?_
  intro p e s m below meth c ls C hW hr hlk hini hl
  have C : kx D cs p m c cX5_mark 6 s _ RX5 := C
  have hx := C.1.1
  have hb := C.1.2.1
  have hl : lv_has ls 6 [(0, .ref X), (1, .int p1), (2, .int x), (3, .int y), (4, .int w), (5, .int h)] := hl
  refine lv_aload_n hx hb dX5_mark_0 rfl (lv_at hl 0 rfl) ?_
  refine lv_iload_n hx hb dX5_mark_1 rfl (lv_at hl 1 rfl) ?_
  refine ro_goI (ro_V (As := [.int p1]) (rest := []) C hW.rd st_X5_116 (c_X5_isLine l D cs _ X ad v F G hS p1) hS.1 rfl rfl ⟨rfl, rfl, Nat.le_of_ble_eq_true rfl, Nat.le_of_ble_eq_true rfl⟩ rfl hl.1 rfl (Nat.le_of_ble_eq_true rfl) dX5_mark_2 ⟨Nat.le_of_ble_eq_true rfl, Nat.le_of_ble_eq_true rfl⟩) (fun r_2 h_2 => ?_)
  refine lv_if_ne (tgt := 12) hx hb dX5_mark_5 (by decide) (fun c_5 => ?_) (fun c_5 => ?_)
  · have c_5 : inB p1 0 (v 0 - 1) = true := bz1 h_2 c_5
    obtain ⟨j, hjj, rfl⟩ := inP_nat c_5 hnl (by omega)
    have hclj := nI_clamp (n := j) (by omega)
    refine lv_iload_n hx hb dX5_mark_12 rfl (lv_at hl 2 rfl) ?_
    refine lv_iconst (v := 0) hx hb dX5_mark_13 (by decide) ?_
    refine lv_aload_n hx hb dX5_mark_14 rfl (lv_at hl 0 rfl) ?_
    refine gf_X5_7 C hW.rd hS.1 rfl dX5_mark_15 ?_
    refine lv_iload_n hx hb dX5_mark_18 rfl (lv_at hl 1 rfl) ?_
    refine r_ialdN (k := j) C hW.rd (RS.i hS 1 4 rfl rfl) (by omega) (by decide) rfl dX5_mark_19 ?_
    refine ro_goI (ro_S (As := [.int x, .int 0, .int (F 1 j)]) (rest := []) C hW.rd st_X5_109 (c_X5_in l D cs _ x 0 (F 1 j)) ⟨rfl, rfl, Nat.le_of_ble_eq_true rfl, Nat.le_of_ble_eq_true rfl⟩ rfl hl.1 rfl (Nat.le_of_ble_eq_true rfl) dX5_mark_20 ⟨Nat.le_of_ble_eq_true rfl, Nat.le_of_ble_eq_true rfl⟩) (fun r_20 h_20 => ?_)
    refine lv_if_eq (tgt := 63) hx hb dX5_mark_23 (by decide) (fun c_23 => ?_) (fun c_23 => ?_)
    · have c_23 : ¬ (inB x 0 (F 1 j) = true) := bz0 h_20 c_23
      refine lv_sipush (v := (-9002)) hx hb dX5_mark_63 (by decide) ?_
      exact wr_iret C hW hr hlk (⟨_, _, hS, by simp [rMark, c_5, c_23, hclj, va_up, nI_pred]⟩) dX5_mark_66
    · have c_23 : inB x 0 (F 1 j) = true := bz1 h_20 c_23
      refine lv_iload_n hx hb dX5_mark_26 rfl (lv_at hl 3 rfl) ?_
      refine lv_sipush (v := (-200)) hx hb dX5_mark_27 (by decide) ?_
      refine lv_sipush (v := 200) hx hb dX5_mark_30 (by decide) ?_
      refine ro_goI (ro_S (As := [.int y, .int (-200), .int 200]) (rest := []) C hW.rd st_X5_109 (c_X5_in l D cs _ y (-200) 200) ⟨rfl, rfl, Nat.le_of_ble_eq_true rfl, Nat.le_of_ble_eq_true rfl⟩ rfl hl.1 rfl (Nat.le_of_ble_eq_true rfl) dX5_mark_33 ⟨Nat.le_of_ble_eq_true rfl, Nat.le_of_ble_eq_true rfl⟩) (fun r_33 h_33 => ?_)
      refine lv_if_eq (tgt := 63) hx hb dX5_mark_36 (by decide) (fun c_36 => ?_) (fun c_36 => ?_)
      · have c_36 : ¬ (inB y (-200) 200 = true) := bz0 h_33 c_36
        refine lv_sipush (v := (-9002)) hx hb dX5_mark_63 (by decide) ?_
        exact wr_iret C hW hr hlk (⟨_, _, hS, by simp [rMark, c_5, c_23, c_36, hclj, va_up, nI_pred]⟩) dX5_mark_66
      · have c_36 : inB y (-200) 200 = true := bz1 h_33 c_36
        refine lv_iload hx hb dX5_mark_39 (lv_at hl 4 rfl) ?_
        refine lv_iconst (v := 1) hx hb dX5_mark_41 (by decide) ?_
        refine lv_sipush (v := 200) hx hb dX5_mark_42 (by decide) ?_
        refine ro_goI (ro_S (As := [.int w, .int 1, .int 200]) (rest := []) C hW.rd st_X5_109 (c_X5_in l D cs _ w 1 200) ⟨rfl, rfl, Nat.le_of_ble_eq_true rfl, Nat.le_of_ble_eq_true rfl⟩ rfl hl.1 rfl (Nat.le_of_ble_eq_true rfl) dX5_mark_45 ⟨Nat.le_of_ble_eq_true rfl, Nat.le_of_ble_eq_true rfl⟩) (fun r_45 h_45 => ?_)
        refine lv_if_eq (tgt := 63) hx hb dX5_mark_48 (by decide) (fun c_48 => ?_) (fun c_48 => ?_)
        · have c_48 : ¬ (inB w 1 200 = true) := bz0 h_45 c_48
          refine lv_sipush (v := (-9002)) hx hb dX5_mark_63 (by decide) ?_
          exact wr_iret C hW hr hlk (⟨_, _, hS, by simp [rMark, c_5, c_23, c_36, c_48, hclj, va_up, nI_pred]⟩) dX5_mark_66
        · have c_48 : inB w 1 200 = true := bz1 h_45 c_48
          refine lv_iload hx hb dX5_mark_51 (lv_at hl 5 rfl) ?_
          refine lv_iconst (v := 1) hx hb dX5_mark_53 (by decide) ?_
          refine lv_sipush (v := 200) hx hb dX5_mark_54 (by decide) ?_
          refine ro_goI (ro_S (As := [.int h, .int 1, .int 200]) (rest := []) C hW.rd st_X5_109 (c_X5_in l D cs _ h 1 200) ⟨rfl, rfl, Nat.le_of_ble_eq_true rfl, Nat.le_of_ble_eq_true rfl⟩ rfl hl.1 rfl (Nat.le_of_ble_eq_true rfl) dX5_mark_57 ⟨Nat.le_of_ble_eq_true rfl, Nat.le_of_ble_eq_true rfl⟩) (fun r_57 h_57 => ?_)
          refine lv_if_ne (tgt := 67) hx hb dX5_mark_60 (by decide) (fun c_60 => ?_) (fun c_60 => ?_)
          · have c_60 : inB h 1 200 = true := bz1 h_57 c_60
            refine lv_aload_n hx hb dX5_mark_67 rfl (lv_at hl 0 rfl) ?_
            refine gf_X5_120 C hW.rd hS.1 rfl dX5_mark_68 ?_
            refine top_eq (y := nI nm) hnm ?_
            refine lv_bipush (v := 40) hx hb dX5_mark_71 (by decide) ?_
            refine lv_icmp_ne (tgt := 80) hx hb dX5_mark_73 (by decide) (fun c_73 => ?_) (fun c_73 => ?_)
            · have c_73 := ceq_f (a := nm) (b := 40) c_73 (by omega) (by omega)
              refine lv_aload_n hx hb dX5_mark_80 rfl (lv_at hl 0 rfl) ?_
              refine gf_X5_26 C hW.rd hS.1 rfl dX5_mark_81 ?_
              refine lv_aload_n hx hb dX5_mark_84 rfl (lv_at hl 0 rfl) ?_
              refine gf_X5_120 C hW.rd hS.1 rfl dX5_mark_85 ?_
              refine top_eq (y := nI nm) hnm ?_
              refine lv_iload_n hx hb dX5_mark_88 rfl (lv_at hl 1 rfl) ?_
              refine w_iastN (k := nm) C hW (RS.i hS 8 40 rfl rfl) (by omega) (by decide) rfl dX5_mark_89 (fun H locs hW => ?_)
              obtain ⟨M, F_1, eF_1, hS, hW⟩ : ∃ (M : wM) (w0 : Nat → Nat → Int32), w0 = sF F 8 nm (nI j) ∧ RS cs M X ad v w0 G ∧ wd D A M s.heap H locs := ⟨_, _, rfl, RS.setI hS 8 rfl nm (nI j), hW⟩
              refine lv_aload_n hx hb dX5_mark_90 rfl (lv_at hl 0 rfl) ?_
              refine gf_X5_29 C hW.rd hS.1 rfl dX5_mark_91 ?_
              refine lv_aload_n hx hb dX5_mark_94 rfl (lv_at hl 0 rfl) ?_
              refine gf_X5_120 C hW.rd hS.1 rfl dX5_mark_95 ?_
              refine top_eq (y := nI nm) hnm ?_
              refine lv_iload_n hx hb dX5_mark_98 rfl (lv_at hl 2 rfl) ?_
              refine w_iastN (k := nm) C hW (RS.i hS 9 40 rfl rfl) (by omega) (by decide) rfl dX5_mark_99 (fun H locs hW => ?_)
              obtain ⟨M, F_2, eF_2, hS, hW⟩ : ∃ (M : wM) (w0 : Nat → Nat → Int32), w0 = sF F_1 9 nm x ∧ RS cs M X ad v w0 G ∧ wd D A M s.heap H locs := ⟨_, _, rfl, RS.setI hS 9 rfl nm x, hW⟩
              refine lv_aload_n hx hb dX5_mark_100 rfl (lv_at hl 0 rfl) ?_
              refine gf_X5_32 C hW.rd hS.1 rfl dX5_mark_101 ?_
              refine lv_aload_n hx hb dX5_mark_104 rfl (lv_at hl 0 rfl) ?_
              refine gf_X5_120 C hW.rd hS.1 rfl dX5_mark_105 ?_
              refine top_eq (y := nI nm) hnm ?_
              refine lv_iload_n hx hb dX5_mark_108 rfl (lv_at hl 3 rfl) ?_
              refine w_iastN (k := nm) C hW (RS.i hS 10 40 rfl rfl) (by omega) (by decide) rfl dX5_mark_109 (fun H locs hW => ?_)
              obtain ⟨M, F_3, eF_3, hS, hW⟩ : ∃ (M : wM) (w0 : Nat → Nat → Int32), w0 = sF F_2 10 nm y ∧ RS cs M X ad v w0 G ∧ wd D A M s.heap H locs := ⟨_, _, rfl, RS.setI hS 10 rfl nm y, hW⟩
              refine lv_aload_n hx hb dX5_mark_110 rfl (lv_at hl 0 rfl) ?_
              refine gf_X5_35 C hW.rd hS.1 rfl dX5_mark_111 ?_
              refine lv_aload_n hx hb dX5_mark_114 rfl (lv_at hl 0 rfl) ?_
              refine gf_X5_120 C hW.rd hS.1 rfl dX5_mark_115 ?_
              refine top_eq (y := nI nm) hnm ?_
              refine lv_iload hx hb dX5_mark_118 (lv_at hl 4 rfl) ?_
              refine w_iastN (k := nm) C hW (RS.i hS 11 40 rfl rfl) (by omega) (by decide) rfl dX5_mark_120 (fun H locs hW => ?_)
              obtain ⟨M, F_4, eF_4, hS, hW⟩ : ∃ (M : wM) (w0 : Nat → Nat → Int32), w0 = sF F_3 11 nm w ∧ RS cs M X ad v w0 G ∧ wd D A M s.heap H locs := ⟨_, _, rfl, RS.setI hS 11 rfl nm w, hW⟩
              refine lv_aload_n hx hb dX5_mark_121 rfl (lv_at hl 0 rfl) ?_
              refine gf_X5_38 C hW.rd hS.1 rfl dX5_mark_122 ?_
              refine lv_aload_n hx hb dX5_mark_125 rfl (lv_at hl 0 rfl) ?_
              refine gf_X5_120 C hW.rd hS.1 rfl dX5_mark_126 ?_
              refine top_eq (y := nI nm) hnm ?_
              refine lv_iload hx hb dX5_mark_129 (lv_at hl 5 rfl) ?_
              refine w_iastN (k := nm) C hW (RS.i hS 12 40 rfl rfl) (by omega) (by decide) rfl dX5_mark_131 (fun H locs hW => ?_)
              obtain ⟨M, F_5, eF_5, hS, hW⟩ : ∃ (M : wM) (w0 : Nat → Nat → Int32), w0 = sF F_4 12 nm h ∧ RS cs M X ad v w0 G ∧ wd D A M s.heap H locs := ⟨_, _, rfl, RS.setI hS 12 rfl nm h, hW⟩
              refine lv_aload_n hx hb dX5_mark_132 rfl (lv_at hl 0 rfl) ?_
              refine lv_dup hx hb dX5_mark_133 rfl ?_
              refine gf_X5_120 C hW.rd hS.1 rfl dX5_mark_134 ?_
              refine top_eq (y := nI nm) hnm ?_
              refine lv_iconst (v := 1) hx hb dX5_mark_137 (by decide) ?_
              refine lv_iadd hx hb dX5_mark_138 ?_
              refine top_eq (y := nI (nm + 1)) (tn_add rfl rfl) ?_
              refine pf_X5_120 (fs2 := rFl ad (va_up v 7 (nI (nm + 1)))) C hW hS.1 (Nat.le_of_ble_eq_true rfl) rfl dX5_mark_139 (fun H locs hW => ?_)
              obtain ⟨M, v_6, ev_6, hS, hW⟩ : ∃ (M : wM) (w0 : Nat → Int32), w0 = va_up v 7 (nI (nm + 1)) ∧ RS cs M X ad w0 F_5 G ∧ wd D A M s.heap H locs := ⟨_, _, rfl, RS.setV hS 7 rfl (nI (nm + 1)), hW⟩
              refine lv_aload_n hx hb dX5_mark_142 rfl (lv_at hl 0 rfl) ?_
              refine gf_X5_120 C hW.rd hS.1 rfl dX5_mark_143 ?_
              exact wr_iret C hW hr hlk (⟨_, _, hS, by subst ev_6 eF_5 eF_4 eF_3 eF_2 eF_1; simp [rMark, c_5, c_23, c_36, c_48, c_60, c_73, hclj, va_up, nI_pred]⟩) dX5_mark_146
            · have c_73 := ceq_t (a := nm) (b := 40) c_73 (by omega) (by omega)
              refine lv_sipush (v := (-9004)) hx hb dX5_mark_76 (by decide) ?_
              exact wr_iret C hW hr hlk (⟨_, _, hS, by simp [rMark, c_5, c_23, c_36, c_48, c_60, c_73, hclj, va_up, nI_pred]⟩) dX5_mark_79
          · have c_60 : ¬ (inB h 1 200 = true) := bz0 h_57 c_60
            refine lv_sipush (v := (-9002)) hx hb dX5_mark_63 (by decide) ?_
            exact wr_iret C hW hr hlk (⟨_, _, hS, by simp [rMark, c_5, c_23, c_36, c_48, c_60, hclj, va_up, nI_pred]⟩) dX5_mark_66
  · have c_5 : ¬ (inB p1 0 (v 0 - 1) = true) := bz0 h_2 c_5
    refine lv_sipush (v := (-9001)) hx hb dX5_mark_8 (by decide) ?_
    exact wr_iret C hW hr hlk (⟨_, _, hS, by simp [rMark, c_5, va_up, nI_pred]⟩) dX5_mark_11

def rWedge (v : Nat → Int32) (F : Nat → Nat → Int32) (nw : Nat) (ln x z y h : Int32) : Int32 × (Nat → Int32) × (Nat → Nat → Int32) := if inB ln 0 (v 0 - 1) = true then (if inB x 0 (F 1 ln.toNatClampNeg) = true ∧ inB z 0 (F 1 ln.toNatClampNeg) = true ∧ ¬ x = z ∧ inB y (-200) 200 = true ∧ inB h 1 40 = true then (if nw = 12 then (-9004, v, F) else (nI (nw + 1), va_up v 13 (nI (nw + 1)), sF (sF (sF (sF (sF F 14 nw ln) 15 nw x) 16 nw z) 17 nw y) 18 nw h)) else (-9002, v, F)) else (-9001, v, F)
set_option maxHeartbeats 4000000 in
set_option maxRecDepth 100000 in
theorem c_X5_wedge (l : Launch) (D : va_G) (cs : Nat → ClassId) (A : Nat → Prop) (M : wM) (X : Nat) (ad : Nat → Nat) (v : Nat → Int32) (F : Nat → Nat → Int32) (G : Nat → Nat → Int64) (hS : RS cs M X ad v F G) (nl nw : Nat) (hnl : v 0 = nI nl) (hl4 : nl ≤ 4) (hnw : v 13 = nI nw) (hn12 : nw ≤ 12) (p1 x z y h : Int32) : Met l yX5_wedge (mw yX5_wedge cX5_wedge 6 (some .int)) { frames := 2, cells := 0, slots := 0, locals := 43 } (wrP D cs A M [.ref X, .int p1, .int x, .int z, .int y, .int h]) (va_Qi (fun r M' => ∃ v' F', RS cs M' X ad v' F' G ∧ (r, v', F') = rWedge v F nw p1 x z y h) (wrB D A) A) 0 0 A := by
  refine wr_met rfl (Nat.le_of_ble_eq_true rfl) ?_
  intro p e s m below meth c ls C hW hr hlk hini hl
  have C : kx D cs p m c cX5_wedge 6 s _ RX5 := C
  have hx := C.1.1
  have hb := C.1.2.1
  have hl : lv_has ls 6 [(0, .ref X), (1, .int p1), (2, .int x), (3, .int z), (4, .int y), (5, .int h)] := hl
  refine lv_aload_n hx hb dX5_wedge_0 rfl (lv_at hl 0 rfl) ?_
  refine lv_iload_n hx hb dX5_wedge_1 rfl (lv_at hl 1 rfl) ?_
  refine ro_goI (ro_V (As := [.int p1]) (rest := []) C hW.rd st_X5_116 (c_X5_isLine l D cs _ X ad v F G hS p1) hS.1 rfl rfl ⟨rfl, rfl, Nat.le_of_ble_eq_true rfl, Nat.le_of_ble_eq_true rfl⟩ rfl hl.1 rfl (Nat.le_of_ble_eq_true rfl) dX5_wedge_2 ⟨Nat.le_of_ble_eq_true rfl, Nat.le_of_ble_eq_true rfl⟩) (fun r_2 h_2 => ?_)
  refine lv_if_ne (tgt := 12) hx hb dX5_wedge_5 (by decide) (fun c_5 => ?_) (fun c_5 => ?_)
  · have c_5 : inB p1 0 (v 0 - 1) = true := bz1 h_2 c_5
    obtain ⟨j, hjj, rfl⟩ := inP_nat c_5 hnl (by omega)
    have hclj := nI_clamp (n := j) (by omega)
    refine lv_iload_n hx hb dX5_wedge_12 rfl (lv_at hl 2 rfl) ?_
    refine lv_iconst (v := 0) hx hb dX5_wedge_13 (by decide) ?_
    refine lv_aload_n hx hb dX5_wedge_14 rfl (lv_at hl 0 rfl) ?_
    refine gf_X5_7 C hW.rd hS.1 rfl dX5_wedge_15 ?_
    refine lv_iload_n hx hb dX5_wedge_18 rfl (lv_at hl 1 rfl) ?_
    refine r_ialdN (k := j) C hW.rd (RS.i hS 1 4 rfl rfl) (by omega) (by decide) rfl dX5_wedge_19 ?_
    refine ro_goI (ro_S (As := [.int x, .int 0, .int (F 1 j)]) (rest := []) C hW.rd st_X5_109 (c_X5_in l D cs _ x 0 (F 1 j)) ⟨rfl, rfl, Nat.le_of_ble_eq_true rfl, Nat.le_of_ble_eq_true rfl⟩ rfl hl.1 rfl (Nat.le_of_ble_eq_true rfl) dX5_wedge_20 ⟨Nat.le_of_ble_eq_true rfl, Nat.le_of_ble_eq_true rfl⟩) (fun r_20 h_20 => ?_)
    refine lv_if_eq (tgt := 70) hx hb dX5_wedge_23 (by decide) (fun c_23 => ?_) (fun c_23 => ?_)
    · have c_23 : ¬ (inB x 0 (F 1 j) = true) := bz0 h_20 c_23
      refine lv_sipush (v := (-9002)) hx hb dX5_wedge_70 (by decide) ?_
      exact wr_iret C hW hr hlk (⟨_, _, hS, by simp [rWedge, c_5, c_23, hclj, va_up, nI_pred]⟩) dX5_wedge_73
    · have c_23 : inB x 0 (F 1 j) = true := bz1 h_20 c_23
      refine lv_iload_n hx hb dX5_wedge_26 rfl (lv_at hl 3 rfl) ?_
      refine lv_iconst (v := 0) hx hb dX5_wedge_27 (by decide) ?_
      refine lv_aload_n hx hb dX5_wedge_28 rfl (lv_at hl 0 rfl) ?_
      refine gf_X5_7 C hW.rd hS.1 rfl dX5_wedge_29 ?_
      refine lv_iload_n hx hb dX5_wedge_32 rfl (lv_at hl 1 rfl) ?_
      refine r_ialdN (k := j) C hW.rd (RS.i hS 1 4 rfl rfl) (by omega) (by decide) rfl dX5_wedge_33 ?_
      refine ro_goI (ro_S (As := [.int z, .int 0, .int (F 1 j)]) (rest := []) C hW.rd st_X5_109 (c_X5_in l D cs _ z 0 (F 1 j)) ⟨rfl, rfl, Nat.le_of_ble_eq_true rfl, Nat.le_of_ble_eq_true rfl⟩ rfl hl.1 rfl (Nat.le_of_ble_eq_true rfl) dX5_wedge_34 ⟨Nat.le_of_ble_eq_true rfl, Nat.le_of_ble_eq_true rfl⟩) (fun r_34 h_34 => ?_)
      refine lv_if_eq (tgt := 70) hx hb dX5_wedge_37 (by decide) (fun c_37 => ?_) (fun c_37 => ?_)
      · have c_37 : ¬ (inB z 0 (F 1 j) = true) := bz0 h_34 c_37
        refine lv_sipush (v := (-9002)) hx hb dX5_wedge_70 (by decide) ?_
        exact wr_iret C hW hr hlk (⟨_, _, hS, by simp [rWedge, c_5, c_23, c_37, hclj, va_up, nI_pred]⟩) dX5_wedge_73
      · have c_37 : inB z 0 (F 1 j) = true := bz1 h_34 c_37
        refine lv_iload_n hx hb dX5_wedge_40 rfl (lv_at hl 2 rfl) ?_
        refine lv_iload_n hx hb dX5_wedge_41 rfl (lv_at hl 3 rfl) ?_
        refine lv_icmp_eq (tgt := 70) hx hb dX5_wedge_42 (by decide) (fun c_42 => ?_) (fun c_42 => ?_)
        · refine lv_sipush (v := (-9002)) hx hb dX5_wedge_70 (by decide) ?_
          exact wr_iret C hW hr hlk (⟨_, _, hS, by simp [rWedge, c_5, c_23, c_37, c_42, hclj, va_up, nI_pred]⟩) dX5_wedge_73
        · refine lv_iload hx hb dX5_wedge_45 (lv_at hl 4 rfl) ?_
          refine lv_sipush (v := (-200)) hx hb dX5_wedge_47 (by decide) ?_
          refine lv_sipush (v := 200) hx hb dX5_wedge_50 (by decide) ?_
          refine ro_goI (ro_S (As := [.int y, .int (-200), .int 200]) (rest := []) C hW.rd st_X5_109 (c_X5_in l D cs _ y (-200) 200) ⟨rfl, rfl, Nat.le_of_ble_eq_true rfl, Nat.le_of_ble_eq_true rfl⟩ rfl hl.1 rfl (Nat.le_of_ble_eq_true rfl) dX5_wedge_53 ⟨Nat.le_of_ble_eq_true rfl, Nat.le_of_ble_eq_true rfl⟩) (fun r_53 h_53 => ?_)
          refine lv_if_eq (tgt := 70) hx hb dX5_wedge_56 (by decide) (fun c_56 => ?_) (fun c_56 => ?_)
          · have c_56 : ¬ (inB y (-200) 200 = true) := bz0 h_53 c_56
            refine lv_sipush (v := (-9002)) hx hb dX5_wedge_70 (by decide) ?_
            exact wr_iret C hW hr hlk (⟨_, _, hS, by simp [rWedge, c_5, c_23, c_37, c_42, c_56, hclj, va_up, nI_pred]⟩) dX5_wedge_73
          · have c_56 : inB y (-200) 200 = true := bz1 h_53 c_56
            refine lv_iload hx hb dX5_wedge_59 (lv_at hl 5 rfl) ?_
            refine lv_iconst (v := 1) hx hb dX5_wedge_61 (by decide) ?_
            refine lv_bipush (v := 40) hx hb dX5_wedge_62 (by decide) ?_
            refine ro_goI (ro_S (As := [.int h, .int 1, .int 40]) (rest := []) C hW.rd st_X5_109 (c_X5_in l D cs _ h 1 40) ⟨rfl, rfl, Nat.le_of_ble_eq_true rfl, Nat.le_of_ble_eq_true rfl⟩ rfl hl.1 rfl (Nat.le_of_ble_eq_true rfl) dX5_wedge_64 ⟨Nat.le_of_ble_eq_true rfl, Nat.le_of_ble_eq_true rfl⟩) (fun r_64 h_64 => ?_)
            refine lv_if_ne (tgt := 74) hx hb dX5_wedge_67 (by decide) (fun c_67 => ?_) (fun c_67 => ?_)
            · have c_67 : inB h 1 40 = true := bz1 h_64 c_67
              refine lv_aload_n hx hb dX5_wedge_74 rfl (lv_at hl 0 rfl) ?_
              refine gf_X5_123 C hW.rd hS.1 rfl dX5_wedge_75 ?_
              refine top_eq (y := nI nw) hnw ?_
              refine lv_bipush (v := 12) hx hb dX5_wedge_78 (by decide) ?_
              refine lv_icmp_ne (tgt := 87) hx hb dX5_wedge_80 (by decide) (fun c_80 => ?_) (fun c_80 => ?_)
              · have c_80 := ceq_f (a := nw) (b := 12) c_80 (by omega) (by omega)
                refine lv_aload_n hx hb dX5_wedge_87 rfl (lv_at hl 0 rfl) ?_
                refine gf_X5_41 C hW.rd hS.1 rfl dX5_wedge_88 ?_
                refine lv_aload_n hx hb dX5_wedge_91 rfl (lv_at hl 0 rfl) ?_
                refine gf_X5_123 C hW.rd hS.1 rfl dX5_wedge_92 ?_
                refine top_eq (y := nI nw) hnw ?_
                refine lv_iload_n hx hb dX5_wedge_95 rfl (lv_at hl 1 rfl) ?_
                refine w_iastN (k := nw) C hW (RS.i hS 14 12 rfl rfl) (by omega) (by decide) rfl dX5_wedge_96 (fun H locs hW => ?_)
                obtain ⟨M, F_1, eF_1, hS, hW⟩ : ∃ (M : wM) (w0 : Nat → Nat → Int32), w0 = sF F 14 nw (nI j) ∧ RS cs M X ad v w0 G ∧ wd D A M s.heap H locs := ⟨_, _, rfl, RS.setI hS 14 rfl nw (nI j), hW⟩
                refine lv_aload_n hx hb dX5_wedge_97 rfl (lv_at hl 0 rfl) ?_
                refine gf_X5_44 C hW.rd hS.1 rfl dX5_wedge_98 ?_
                refine lv_aload_n hx hb dX5_wedge_101 rfl (lv_at hl 0 rfl) ?_
                refine gf_X5_123 C hW.rd hS.1 rfl dX5_wedge_102 ?_
                refine top_eq (y := nI nw) hnw ?_
                refine lv_iload_n hx hb dX5_wedge_105 rfl (lv_at hl 2 rfl) ?_
                refine w_iastN (k := nw) C hW (RS.i hS 15 12 rfl rfl) (by omega) (by decide) rfl dX5_wedge_106 (fun H locs hW => ?_)
                obtain ⟨M, F_2, eF_2, hS, hW⟩ : ∃ (M : wM) (w0 : Nat → Nat → Int32), w0 = sF F_1 15 nw x ∧ RS cs M X ad v w0 G ∧ wd D A M s.heap H locs := ⟨_, _, rfl, RS.setI hS 15 rfl nw x, hW⟩
                refine lv_aload_n hx hb dX5_wedge_107 rfl (lv_at hl 0 rfl) ?_
                refine gf_X5_47 C hW.rd hS.1 rfl dX5_wedge_108 ?_
                refine lv_aload_n hx hb dX5_wedge_111 rfl (lv_at hl 0 rfl) ?_
                refine gf_X5_123 C hW.rd hS.1 rfl dX5_wedge_112 ?_
                refine top_eq (y := nI nw) hnw ?_
                refine lv_iload_n hx hb dX5_wedge_115 rfl (lv_at hl 3 rfl) ?_
                refine w_iastN (k := nw) C hW (RS.i hS 16 12 rfl rfl) (by omega) (by decide) rfl dX5_wedge_116 (fun H locs hW => ?_)
                obtain ⟨M, F_3, eF_3, hS, hW⟩ : ∃ (M : wM) (w0 : Nat → Nat → Int32), w0 = sF F_2 16 nw z ∧ RS cs M X ad v w0 G ∧ wd D A M s.heap H locs := ⟨_, _, rfl, RS.setI hS 16 rfl nw z, hW⟩
                refine lv_aload_n hx hb dX5_wedge_117 rfl (lv_at hl 0 rfl) ?_
                refine gf_X5_50 C hW.rd hS.1 rfl dX5_wedge_118 ?_
                refine lv_aload_n hx hb dX5_wedge_121 rfl (lv_at hl 0 rfl) ?_
                refine gf_X5_123 C hW.rd hS.1 rfl dX5_wedge_122 ?_
                refine top_eq (y := nI nw) hnw ?_
                refine lv_iload hx hb dX5_wedge_125 (lv_at hl 4 rfl) ?_
                refine w_iastN (k := nw) C hW (RS.i hS 17 12 rfl rfl) (by omega) (by decide) rfl dX5_wedge_127 (fun H locs hW => ?_)
                obtain ⟨M, F_4, eF_4, hS, hW⟩ : ∃ (M : wM) (w0 : Nat → Nat → Int32), w0 = sF F_3 17 nw y ∧ RS cs M X ad v w0 G ∧ wd D A M s.heap H locs := ⟨_, _, rfl, RS.setI hS 17 rfl nw y, hW⟩
                refine lv_aload_n hx hb dX5_wedge_128 rfl (lv_at hl 0 rfl) ?_
                refine gf_X5_53 C hW.rd hS.1 rfl dX5_wedge_129 ?_
                refine lv_aload_n hx hb dX5_wedge_132 rfl (lv_at hl 0 rfl) ?_
                refine gf_X5_123 C hW.rd hS.1 rfl dX5_wedge_133 ?_
                refine top_eq (y := nI nw) hnw ?_
                refine lv_iload hx hb dX5_wedge_136 (lv_at hl 5 rfl) ?_
                refine w_iastN (k := nw) C hW (RS.i hS 18 12 rfl rfl) (by omega) (by decide) rfl dX5_wedge_138 (fun H locs hW => ?_)
                obtain ⟨M, F_5, eF_5, hS, hW⟩ : ∃ (M : wM) (w0 : Nat → Nat → Int32), w0 = sF F_4 18 nw h ∧ RS cs M X ad v w0 G ∧ wd D A M s.heap H locs := ⟨_, _, rfl, RS.setI hS 18 rfl nw h, hW⟩
                refine lv_aload_n hx hb dX5_wedge_139 rfl (lv_at hl 0 rfl) ?_
                refine lv_dup hx hb dX5_wedge_140 rfl ?_
                refine gf_X5_123 C hW.rd hS.1 rfl dX5_wedge_141 ?_
                refine top_eq (y := nI nw) hnw ?_
                refine lv_iconst (v := 1) hx hb dX5_wedge_144 (by decide) ?_
                refine lv_iadd hx hb dX5_wedge_145 ?_
                refine top_eq (y := nI (nw + 1)) (tn_add rfl rfl) ?_
                refine pf_X5_123 (fs2 := rFl ad (va_up v 13 (nI (nw + 1)))) C hW hS.1 (Nat.le_of_ble_eq_true rfl) rfl dX5_wedge_146 (fun H locs hW => ?_)
                obtain ⟨M, v_6, ev_6, hS, hW⟩ : ∃ (M : wM) (w0 : Nat → Int32), w0 = va_up v 13 (nI (nw + 1)) ∧ RS cs M X ad w0 F_5 G ∧ wd D A M s.heap H locs := ⟨_, _, rfl, RS.setV hS 13 rfl (nI (nw + 1)), hW⟩
                refine lv_aload_n hx hb dX5_wedge_149 rfl (lv_at hl 0 rfl) ?_
                refine gf_X5_123 C hW.rd hS.1 rfl dX5_wedge_150 ?_
                exact wr_iret C hW hr hlk (⟨_, _, hS, by subst ev_6 eF_5 eF_4 eF_3 eF_2 eF_1; simp [rWedge, c_5, c_23, c_37, c_42, c_56, c_67, c_80, hclj, va_up, nI_pred]⟩) dX5_wedge_153
              · have c_80 := ceq_t (a := nw) (b := 12) c_80 (by omega) (by omega)
                refine lv_sipush (v := (-9004)) hx hb dX5_wedge_83 (by decide) ?_
                exact wr_iret C hW hr hlk (⟨_, _, hS, by simp [rWedge, c_5, c_23, c_37, c_42, c_56, c_67, c_80, hclj, va_up, nI_pred]⟩) dX5_wedge_86
            · have c_67 : ¬ (inB h 1 40 = true) := bz0 h_64 c_67
              refine lv_sipush (v := (-9002)) hx hb dX5_wedge_70 (by decide) ?_
              exact wr_iret C hW hr hlk (⟨_, _, hS, by simp [rWedge, c_5, c_23, c_37, c_42, c_56, c_67, hclj, va_up, nI_pred]⟩) dX5_wedge_73
  · have c_5 : ¬ (inB p1 0 (v 0 - 1) = true) := bz0 h_2 c_5
    refine lv_sipush (v := (-9001)) hx hb dX5_wedge_8 (by decide) ?_
    exact wr_iret C hW hr hlk (⟨_, _, hS, by simp [rWedge, c_5, va_up, nI_pred]⟩) dX5_wedge_11

def rLay (F : Nat → Nat → Int32) (k : Nat) (ln fx fy tx ty : Int32) : Nat → Nat → Int32 := sF (sF (sF (sF (sF F 25 k ln) 26 k fx) 27 k fy) 28 k tx) 29 k ty
set_option maxHeartbeats 4000000 in
set_option maxRecDepth 100000 in
theorem c_X5_lay (l : Launch) (D : va_G) (cs : Nat → ClassId) (A : Nat → Prop) (M : wM) (X : Nat) (ad : Nat → Nat) (v : Nat → Int32) (F : Nat → Nat → Int32) (G : Nat → Nat → Int64) (hS : RS cs M X ad v F G) (k : Nat) (hk : k < 80) (ln fx fy tx ty : Int32) : Met l yX5_lay (mw yX5_lay cX5_lay 7 none) { frames := 0, cells := 0, slots := 0, locals := 0 } (wrP D cs A M [.ref X, .int (nI k), .int ln, .int fx, .int fy, .int tx, .int ty]) (va_Qv (fun M' => ∃ F', RS cs M' X ad v F' G ∧ F' = rLay F k ln fx fy tx ty) (wrB D A) A) 0 0 A := by
  refine wr_met rfl (Nat.le_of_ble_eq_true rfl) ?_
  intro p e s m below meth c ls C hW hr hlk hini hl
  have C : kx D cs p m c cX5_lay 7 s _ RX5 := C
  have hx := C.1.1
  have hb := C.1.2.1
  have hl : lv_has ls 7 [(0, .ref X), (1, .int (nI k)), (2, .int ln), (3, .int fx), (4, .int fy), (5, .int tx), (6, .int ty)] := hl
  refine lv_aload_n hx hb dX5_lay_0 rfl (lv_at hl 0 rfl) ?_
  refine gf_X5_71 C hW.rd hS.1 rfl dX5_lay_1 ?_
  refine lv_iload_n hx hb dX5_lay_4 rfl (lv_at hl 1 rfl) ?_
  refine lv_iload_n hx hb dX5_lay_5 rfl (lv_at hl 2 rfl) ?_
  refine w_iastN (k := k) C hW (RS.i hS 25 80 rfl rfl) (by omega) (by decide) rfl dX5_lay_6 (fun H locs hW => ?_)
  obtain ⟨M, F_1, eF_1, hS, hW⟩ : ∃ (M : wM) (w0 : Nat → Nat → Int32), w0 = sF F 25 k ln ∧ RS cs M X ad v w0 G ∧ wd D A M s.heap H locs := ⟨_, _, rfl, RS.setI hS 25 rfl k ln, hW⟩
  refine lv_aload_n hx hb dX5_lay_7 rfl (lv_at hl 0 rfl) ?_
  refine gf_X5_74 C hW.rd hS.1 rfl dX5_lay_8 ?_
  refine lv_iload_n hx hb dX5_lay_11 rfl (lv_at hl 1 rfl) ?_
  refine lv_iload_n hx hb dX5_lay_12 rfl (lv_at hl 3 rfl) ?_
  refine w_iastN (k := k) C hW (RS.i hS 26 80 rfl rfl) (by omega) (by decide) rfl dX5_lay_13 (fun H locs hW => ?_)
  obtain ⟨M, F_2, eF_2, hS, hW⟩ : ∃ (M : wM) (w0 : Nat → Nat → Int32), w0 = sF F_1 26 k fx ∧ RS cs M X ad v w0 G ∧ wd D A M s.heap H locs := ⟨_, _, rfl, RS.setI hS 26 rfl k fx, hW⟩
  refine lv_aload_n hx hb dX5_lay_14 rfl (lv_at hl 0 rfl) ?_
  refine gf_X5_77 C hW.rd hS.1 rfl dX5_lay_15 ?_
  refine lv_iload_n hx hb dX5_lay_18 rfl (lv_at hl 1 rfl) ?_
  refine lv_iload hx hb dX5_lay_19 (lv_at hl 4 rfl) ?_
  refine w_iastN (k := k) C hW (RS.i hS 27 80 rfl rfl) (by omega) (by decide) rfl dX5_lay_21 (fun H locs hW => ?_)
  obtain ⟨M, F_3, eF_3, hS, hW⟩ : ∃ (M : wM) (w0 : Nat → Nat → Int32), w0 = sF F_2 27 k fy ∧ RS cs M X ad v w0 G ∧ wd D A M s.heap H locs := ⟨_, _, rfl, RS.setI hS 27 rfl k fy, hW⟩
  refine lv_aload_n hx hb dX5_lay_22 rfl (lv_at hl 0 rfl) ?_
  refine gf_X5_80 C hW.rd hS.1 rfl dX5_lay_23 ?_
  refine lv_iload_n hx hb dX5_lay_26 rfl (lv_at hl 1 rfl) ?_
  refine lv_iload hx hb dX5_lay_27 (lv_at hl 5 rfl) ?_
  refine w_iastN (k := k) C hW (RS.i hS 28 80 rfl rfl) (by omega) (by decide) rfl dX5_lay_29 (fun H locs hW => ?_)
  obtain ⟨M, F_4, eF_4, hS, hW⟩ : ∃ (M : wM) (w0 : Nat → Nat → Int32), w0 = sF F_3 28 k tx ∧ RS cs M X ad v w0 G ∧ wd D A M s.heap H locs := ⟨_, _, rfl, RS.setI hS 28 rfl k tx, hW⟩
  refine lv_aload_n hx hb dX5_lay_30 rfl (lv_at hl 0 rfl) ?_
  refine gf_X5_83 C hW.rd hS.1 rfl dX5_lay_31 ?_
  refine lv_iload_n hx hb dX5_lay_34 rfl (lv_at hl 1 rfl) ?_
  refine lv_iload hx hb dX5_lay_35 (lv_at hl 6 rfl) ?_
  refine w_iastN (k := k) C hW (RS.i hS 29 80 rfl rfl) (by omega) (by decide) rfl dX5_lay_37 (fun H locs hW => ?_)
  obtain ⟨M, F_5, eF_5, hS, hW⟩ : ∃ (M : wM) (w0 : Nat → Nat → Int32), w0 = sF F_4 29 k ty ∧ RS cs M X ad v w0 G ∧ wd D A M s.heap H locs := ⟨_, _, rfl, RS.setI hS 29 rfl k ty, hW⟩
  exact wr_vret C hW hr hlk (⟨_, hS, by subst eF_5 eF_4 eF_3 eF_2 eF_1; rfl⟩) dX5_lay_38

set_option maxHeartbeats 4000000 in
set_option maxRecDepth 100000 in
theorem c_X5_other (l : Launch) (D : va_G) (cs : Nat → ClassId) (A : Nat → Prop) (M : wM) (X : Nat) (ad : Nat → Nat) (v : Nat → Int32) (F : Nat → Nat → Int32) (G : Nat → Nat → Int64) (hS : RS cs M X ad v F G) (i : Nat) (hi : i < 4) (x y : Int64) : Met l yX5_other (mw yX5_other cX5_other 6 none) { frames := 0, cells := 0, slots := 0, locals := 0 } (wrP D cs A M [.ref X, .int (nI i), .long x, .long y]) (va_Qv (fun M' => ∃ G', RS cs M' X ad v F G' ∧ G' = sG (sG G 34 i x) 35 i y) (wrB D A) A) 0 0 A := by
  refine wr_met rfl (Nat.le_of_ble_eq_true rfl) ?_
  intro p e s m below meth c ls C hW hr hlk hini hl
  have C : kx D cs p m c cX5_other 6 s _ RX5 := C
  have hx := C.1.1
  have hb := C.1.2.1
  have hl : lv_has ls 6 [(0, .ref X), (1, .int (nI i)), (2, .long x), (4, .long y)] := hl
  refine lv_aload_n hx hb dX5_other_0 rfl (lv_at hl 0 rfl) ?_
  refine gf_X5_99 C hW.rd hS.1 rfl dX5_other_1 ?_
  refine lv_iload_n hx hb dX5_other_4 rfl (lv_at hl 1 rfl) ?_
  refine lv_lload_n hx hb dX5_other_5 rfl (lv_at hl 2 rfl) ?_
  refine w_lastN (k := i) C hW (RS.j hS 34 4 rfl rfl) (by omega) (by decide) rfl dX5_other_6 (fun H locs hW => ?_)
  obtain ⟨M, G_1, eG_1, hS, hW⟩ : ∃ (M : wM) (w0 : Nat → Nat → Int64), w0 = sG G 34 i x ∧ RS cs M X ad v F w0 ∧ wd D A M s.heap H locs := ⟨_, _, rfl, RS.setJ hS 34 rfl i x, hW⟩
  refine lv_aload_n hx hb dX5_other_7 rfl (lv_at hl 0 rfl) ?_
  refine gf_X5_102 C hW.rd hS.1 rfl dX5_other_8 ?_
  refine lv_iload_n hx hb dX5_other_11 rfl (lv_at hl 1 rfl) ?_
  refine lv_lload hx hb dX5_other_12 (lv_at hl 3 rfl) ?_
  refine w_lastN (k := i) C hW (RS.j hS 35 4 rfl rfl) (by omega) (by decide) rfl dX5_other_14 (fun H locs hW => ?_)
  obtain ⟨M, G_2, eG_2, hS, hW⟩ : ∃ (M : wM) (w0 : Nat → Nat → Int64), w0 = sG G_1 35 i y ∧ RS cs M X ad v F w0 ∧ wd D A M s.heap H locs := ⟨_, _, rfl, RS.setJ hS 35 rfl i y, hW⟩
  exact wr_vret C hW hr hlk (⟨_, hS, by subst eG_2 eG_1; rfl⟩) dX5_other_15

def rTurn (x y u w p q : Int64) : Int64 := if (u - x) * (q - y) - (w - y) * (p - x) ≤ 0 then (if 0 ≤ (u - x) * (q - y) - (w - y) * (p - x) then 0 else -1) else 1
set_option maxHeartbeats 4000000 in
set_option maxRecDepth 100000 in
theorem c_X5_turn (l : Launch) (D : va_G) (cs : Nat → ClassId) (M : wM) (x y u w p0 q : Int64) : Met l yX5_turn (mw yX5_turn cX5_turn 14 (some .long)) { frames := 0, cells := 0, slots := 0, locals := 0 } (roP D cs M [.long x, .long y, .long u, .long w, .long p0, .long q]) (vp_Sl (fun r => r = rTurn x y u w p0 q)) 0 0 noA := by
  refine ro_met rfl (Nat.le_of_ble_eq_true rfl) ?_
  intro p e s m below meth c ls C hR hr hlk hl
  have C : kx D cs p m c cX5_turn 14 s _ RX5 := C
  have hx := C.1.1
  have hb := C.1.2.1
  have hl : lv_has ls 14 [(0, .long x), (2, .long y), (4, .long u), (6, .long w), (8, .long p0), (10, .long q)] := hl
  refine lv_lload hx hb dX5_turn_0 (lv_at hl 2 rfl) ?_
  refine lv_lload_n hx hb dX5_turn_2 rfl (lv_at hl 0 rfl) ?_
  refine lv_lsub hx hb dX5_turn_3 ?_
  refine lv_lload hx hb dX5_turn_4 (lv_at hl 5 rfl) ?_
  refine lv_lload_n hx hb dX5_turn_6 rfl (lv_at hl 1 rfl) ?_
  refine lv_lsub hx hb dX5_turn_7 ?_
  refine lv_lmul hx hb dX5_turn_8 ?_
  refine lv_lload hx hb dX5_turn_9 (lv_at hl 3 rfl) ?_
  refine lv_lload_n hx hb dX5_turn_11 rfl (lv_at hl 1 rfl) ?_
  refine lv_lsub hx hb dX5_turn_12 ?_
  refine lv_lload hx hb dX5_turn_13 (lv_at hl 4 rfl) ?_
  refine lv_lload_n hx hb dX5_turn_15 rfl (lv_at hl 0 rfl) ?_
  refine lv_lsub hx hb dX5_turn_16 ?_
  refine lv_lmul hx hb dX5_turn_17 ?_
  refine lv_lsub hx hb dX5_turn_18 ?_
  refine lv_topl (fun x_19 ex_19 => ?_)
  refine lv_lstore (lv' := [(12, .long x_19), (0, .long x), (2, .long y), (4, .long u), (6, .long w), (8, .long p0), (10, .long q)]) hx hb dX5_turn_19 hl (by decide) rfl (fun ls hl => ?_)
  refine lv_lload hx hb dX5_turn_21 (lv_at hl 0 rfl) ?_
  refine lv_lconst (v := 0) hx hb dX5_turn_23 (by decide) ?_
  refine W.lcmp hx hb dX5_turn_24 ?_
  refine lv_if_le (tgt := 32) hx hb dX5_turn_25 (by decide) (fun c_25 => ?_) (fun c_25 => ?_)
  · have c_25 : x_19 ≤ 0 := (lg_cmp_le _ _).mp c_25
    refine lv_lload hx hb dX5_turn_32 (lv_at hl 0 rfl) ?_
    refine lv_lconst (v := 0) hx hb dX5_turn_34 (by decide) ?_
    refine W.lcmp hx hb dX5_turn_35 ?_
    refine lv_if_ge (tgt := 45) hx hb dX5_turn_36 (by decide) (fun c_36 => ?_) (fun c_36 => ?_)
    · have c_36 : 0 ≤ x_19 := (lg_cmp_ge _ _).mp c_36
      refine lv_lconst (v := 0) hx hb dX5_turn_45 (by decide) ?_
      exact ro_lret C hr hlk (by subst ex_19; simp [rTurn, c_25, c_36]) dX5_turn_46
    · have c_36 : ¬ (0 ≤ x_19) := fun h => c_36 ((lg_cmp_ge _ _).mpr h)
      refine lv_ldc2 (v := (-1)) hx hb C.1.2.2.2.1 (C.1.2.2.2.2 _ wm_408) dX5_turn_39 ?_
      refine lv_goto (tgt := 46) hx hb dX5_turn_42 (by decide) ?_
      exact ro_lret C hr hlk (by subst ex_19; simp [rTurn, c_25, c_36]) dX5_turn_46
  · have c_25 : ¬ (x_19 ≤ 0) := fun h => c_25 ((lg_cmp_le _ _).mpr h)
    refine lv_lconst (v := 1) hx hb dX5_turn_28 (by decide) ?_
    refine lv_goto (tgt := 46) hx hb dX5_turn_29 (by decide) ?_
    exact ro_lret C hr hlk (by subst ex_19; simp [rTurn, c_25]) dX5_turn_46

def rBtw (a b c : Int64) : Bool := decide ((¬ b < a ∧ b ≤ c) ∨ (¬ b < c ∧ ¬ a < b))
set_option maxHeartbeats 4000000 in
set_option maxRecDepth 100000 in
theorem c_X5_between (l : Launch) (D : va_G) (cs : Nat → ClassId) (M : wM) (x y z : Int64) : Met l yX5_between (mw yX5_between cX5_between 6 (some .boolean)) { frames := 0, cells := 0, slots := 0, locals := 0 } (roP D cs M [.long x, .long y, .long z]) (vp_Si (fun r => r = bI (rBtw x y z = true))) 0 0 noA := by
  refine ro_met rfl (Nat.le_of_ble_eq_true rfl) ?_
  intro p e s m below meth c ls C hR hr hlk hl
  have C : kx D cs p m c cX5_between 6 s _ RX5 := C
  have hx := C.1.1
  have hb := C.1.2.1
  have hl : lv_has ls 6 [(0, .long x), (2, .long y), (4, .long z)] := hl
  refine lv_lload_n hx hb dX5_between_0 rfl (lv_at hl 0 rfl) ?_
  refine lv_lload_n hx hb dX5_between_1 rfl (lv_at hl 1 rfl) ?_
  refine W.lcmp hx hb dX5_between_2 ?_
  refine lv_if_gt (tgt := 13) hx hb dX5_between_3 (by decide) (fun c_3 => ?_) (fun c_3 => ?_)
  · have c_3 : y < x := (lg_cmp_gt _ _).mp c_3
    refine lv_lload hx hb dX5_between_13 (lv_at hl 2 rfl) ?_
    refine lv_lload_n hx hb dX5_between_15 rfl (lv_at hl 1 rfl) ?_
    refine W.lcmp hx hb dX5_between_16 ?_
    refine lv_if_gt (tgt := 30) hx hb dX5_between_17 (by decide) (fun c_17 => ?_) (fun c_17 => ?_)
    · have c_17 : y < z := (lg_cmp_gt _ _).mp c_17
      refine lv_iconst (v := 0) hx hb dX5_between_30 (by decide) ?_
      exact ro_zret C hr hlk rfl (bI_f (by simp [rBtw, c_3, c_17])) dX5_between_31
    · have c_17 : ¬ (y < z) := fun h => c_17 ((lg_cmp_gt _ _).mpr h)
      refine lv_lload_n hx hb dX5_between_20 rfl (lv_at hl 1 rfl) ?_
      refine lv_lload_n hx hb dX5_between_21 rfl (lv_at hl 0 rfl) ?_
      refine W.lcmp hx hb dX5_between_22 ?_
      refine lv_if_gt (tgt := 30) hx hb dX5_between_23 (by decide) (fun c_23 => ?_) (fun c_23 => ?_)
      · have c_23 : x < y := (lg_cmp_gt _ _).mp c_23
        refine lv_iconst (v := 0) hx hb dX5_between_30 (by decide) ?_
        exact ro_zret C hr hlk rfl (bI_f (by simp [rBtw, c_3, c_17, c_23])) dX5_between_31
      · have c_23 : ¬ (x < y) := fun h => c_23 ((lg_cmp_gt _ _).mpr h)
        refine lv_iconst (v := 1) hx hb dX5_between_26 (by decide) ?_
        refine lv_goto (tgt := 31) hx hb dX5_between_27 (by decide) ?_
        exact ro_zret C hr hlk rfl (bI_t (by simp [rBtw, c_3, c_17, c_23])) dX5_between_31
  · have c_3 : ¬ (y < x) := fun h => c_3 ((lg_cmp_gt _ _).mpr h)
    refine lv_lload_n hx hb dX5_between_6 rfl (lv_at hl 1 rfl) ?_
    refine lv_lload hx hb dX5_between_7 (lv_at hl 2 rfl) ?_
    refine W.lcmp hx hb dX5_between_9 ?_
    refine lv_if_le (tgt := 26) hx hb dX5_between_10 (by decide) (fun c_10 => ?_) (fun c_10 => ?_)
    · have c_10 : y ≤ z := (lg_cmp_le _ _).mp c_10
      refine lv_iconst (v := 1) hx hb dX5_between_26 (by decide) ?_
      refine lv_goto (tgt := 31) hx hb dX5_between_27 (by decide) ?_
      exact ro_zret C hr hlk rfl (bI_t (by simp [rBtw, c_3, c_10])) dX5_between_31
    · have c_10 : ¬ (y ≤ z) := fun h => c_10 ((lg_cmp_le _ _).mpr h)
      refine lv_lload hx hb dX5_between_13 (lv_at hl 2 rfl) ?_
      refine lv_lload_n hx hb dX5_between_15 rfl (lv_at hl 1 rfl) ?_
      refine W.lcmp hx hb dX5_between_16 ?_
      refine lv_if_gt (tgt := 30) hx hb dX5_between_17 (by decide) (fun c_17 => ?_) (fun c_17 => ?_)
      · have c_17 : y < z := (lg_cmp_gt _ _).mp c_17
        refine lv_iconst (v := 0) hx hb dX5_between_30 (by decide) ?_
        exact ro_zret C hr hlk rfl (bI_f (by simp [rBtw, c_3, c_10, c_17])) dX5_between_31
      · have c_17 : ¬ (y < z) := fun h => c_17 ((lg_cmp_gt _ _).mpr h)
        refine lv_lload_n hx hb dX5_between_20 rfl (lv_at hl 1 rfl) ?_
        refine lv_lload_n hx hb dX5_between_21 rfl (lv_at hl 0 rfl) ?_
        refine W.lcmp hx hb dX5_between_22 ?_
        refine lv_if_gt (tgt := 30) hx hb dX5_between_23 (by decide) (fun c_23 => ?_) (fun c_23 => ?_)
        · have c_23 : x < y := (lg_cmp_gt _ _).mp c_23
          refine lv_iconst (v := 0) hx hb dX5_between_30 (by decide) ?_
          exact ro_zret C hr hlk rfl (bI_f (by simp [rBtw, c_3, c_10, c_17, c_23])) dX5_between_31
        · have c_23 : ¬ (x < y) := fun h => c_23 ((lg_cmp_gt _ _).mpr h)
          refine lv_iconst (v := 1) hx hb dX5_between_26 (by decide) ?_
          refine lv_goto (tgt := 31) hx hb dX5_between_27 (by decide) ?_
          exact ro_zret C hr hlk rfl (bI_t (by simp [rBtw, c_3, c_10, c_17, c_23])) dX5_between_31

def rOn (x y u w p q : Int64) : Bool := rBtw x p u && rBtw y q w
set_option maxHeartbeats 4000000 in
set_option maxRecDepth 100000 in
theorem c_X5_isOn (l : Launch) (D : va_G) (cs : Nat → ClassId) (M : wM) (x y u w p0 q : Int64) : Met l yX5_isOn (mw yX5_isOn cX5_isOn 12 (some .boolean)) { frames := 1, cells := 0, slots := 0, locals := 25 } (roP D cs M [.long x, .long y, .long u, .long w, .long p0, .long q]) (vp_Si (fun r => r = bI (rOn x y u w p0 q = true))) 0 0 noA := by
  refine ro_met rfl (Nat.le_of_ble_eq_true rfl) ?_
  intro p e s m below meth c ls C hR hr hlk hl
  have C : kx D cs p m c cX5_isOn 12 s _ RX5 := C
  have hx := C.1.1
  have hb := C.1.2.1
  have hl : lv_has ls 12 [(0, .long x), (2, .long y), (4, .long u), (6, .long w), (8, .long p0), (10, .long q)] := hl
  refine lv_lload_n hx hb dX5_isOn_0 rfl (lv_at hl 0 rfl) ?_
  refine lv_lload hx hb dX5_isOn_1 (lv_at hl 4 rfl) ?_
  refine lv_lload hx hb dX5_isOn_3 (lv_at hl 2 rfl) ?_
  refine ro_goI (ro_S (As := [.long x, .long p0, .long u]) (rest := []) C hR st_X5_171 (c_X5_between l D cs _ x p0 u) ⟨rfl, rfl, Nat.le_of_ble_eq_true rfl, Nat.le_of_ble_eq_true rfl⟩ rfl hl.1 rfl (Nat.le_of_ble_eq_true rfl) dX5_isOn_5 ⟨Nat.le_of_ble_eq_true rfl, Nat.le_of_ble_eq_true rfl⟩) (fun r_5 h_5 => ?_)
  refine lv_if_eq (tgt := 26) hx hb dX5_isOn_8 (by decide) (fun c_8 => ?_) (fun c_8 => ?_)
  · have c_8 : ¬ (rBtw x p0 u = true) := bz0 h_5 c_8
    refine lv_iconst (v := 0) hx hb dX5_isOn_26 (by decide) ?_
    exact ro_zret C hr hlk rfl (bI_f (by simp [rOn, c_8])) dX5_isOn_27
  · have c_8 : rBtw x p0 u = true := bz1 h_5 c_8
    refine lv_lload_n hx hb dX5_isOn_11 rfl (lv_at hl 1 rfl) ?_
    refine lv_lload hx hb dX5_isOn_12 (lv_at hl 5 rfl) ?_
    refine lv_lload hx hb dX5_isOn_14 (lv_at hl 3 rfl) ?_
    refine ro_goI (ro_S (As := [.long y, .long q, .long w]) (rest := []) C hR st_X5_171 (c_X5_between l D cs _ y q w) ⟨rfl, rfl, Nat.le_of_ble_eq_true rfl, Nat.le_of_ble_eq_true rfl⟩ rfl hl.1 rfl (Nat.le_of_ble_eq_true rfl) dX5_isOn_16 ⟨Nat.le_of_ble_eq_true rfl, Nat.le_of_ble_eq_true rfl⟩) (fun r_16 h_16 => ?_)
    refine lv_if_eq (tgt := 26) hx hb dX5_isOn_19 (by decide) (fun c_19 => ?_) (fun c_19 => ?_)
    · have c_19 : ¬ (rBtw y q w = true) := bz0 h_16 c_19
      refine lv_iconst (v := 0) hx hb dX5_isOn_26 (by decide) ?_
      exact ro_zret C hr hlk rfl (bI_f (by simp [rOn, c_8, c_19])) dX5_isOn_27
    · have c_19 : rBtw y q w = true := bz1 h_16 c_19
      refine lv_iconst (v := 1) hx hb dX5_isOn_22 (by decide) ?_
      refine lv_goto (tgt := 27) hx hb dX5_isOn_23 (by decide) ?_
      exact ro_zret C hr hlk rfl (bI_t (by simp [rOn, c_8, c_19])) dX5_isOn_27

def rEnd (F : Nat → Nat → Int32) (c a : Nat) : Int32 := if F 22 c = 0 then 4 * F 23 c + (if F 6 a = bI (F 23 c = 1) then 24 * F 23 c else 0) else 2 * F 23 c
set_option maxHeartbeats 4000000 in
set_option maxRecDepth 100000 in
theorem c_X5_endOf (l : Launch) (D : va_G) (cs : Nat → ClassId) (M : wM) (X : Nat) (ad : Nat → Nat) (v : Nat → Int32) (F : Nat → Nat → Int32) (G : Nat → Nat → Int64) (hS : RS cs M X ad v F G) (c0 a : Nat) (hc0 : c0 < 40) (ha : a < 60) : Met l yX5_endOf (mw yX5_endOf cX5_endOf 3 (some .int)) { frames := 0, cells := 0, slots := 0, locals := 0 } (roP D cs M [.ref X, .int (nI c0), .int (nI a)]) (vp_Si (fun r => r = rEnd F c0 a)) 0 0 noA := by
  refine ro_met rfl (Nat.le_of_ble_eq_true rfl) ?_
  intro p e s m below meth c ls C hR hr hlk hl
  have C : kx D cs p m c cX5_endOf 3 s _ RX5 := C
  have hx := C.1.1
  have hb := C.1.2.1
  have hl : lv_has ls 3 [(0, .ref X), (1, .int (nI c0)), (2, .int (nI a))] := hl
  refine lv_aload_n hx hb dX5_endOf_0 rfl (lv_at hl 0 rfl) ?_
  refine gf_X5_62 C hR hS.1 rfl dX5_endOf_1 ?_
  refine lv_iload_n hx hb dX5_endOf_4 rfl (lv_at hl 1 rfl) ?_
  refine r_zaldN (k := c0) C hR (RS.z hS 22 40 rfl rfl) (by omega) (by decide) rfl dX5_endOf_5 ?_
  refine lv_if_eq (tgt := 18) hx hb dX5_endOf_6 (by decide) (fun c_6 => ?_) (fun c_6 => ?_)
  · refine lv_iconst (v := 4) hx hb dX5_endOf_18 (by decide) ?_
    refine lv_aload_n hx hb dX5_endOf_19 rfl (lv_at hl 0 rfl) ?_
    refine gf_X5_65 C hR hS.1 rfl dX5_endOf_20 ?_
    refine lv_iload_n hx hb dX5_endOf_23 rfl (lv_at hl 1 rfl) ?_
    refine r_ialdN (k := c0) C hR (RS.i hS 23 40 rfl rfl) (by omega) (by decide) rfl dX5_endOf_24 ?_
    refine lv_imul hx hb dX5_endOf_25 ?_
    refine W.cut (fun z => z = if F 6 a = bI (F 23 c0 = 1) then 24 * F 23 c0 else 0) (fun z => F0 m 63 ls (.int z :: [.int (4 * (F 23 c0))])) (fun z_63 hz_63 => ?_) (fun J_63 => ?_)
    · refine lv_iadd hx hb dX5_endOf_63 ?_
      exact ro_iret C hr hlk (by simp [rEnd, c_6, hz_63]) dX5_endOf_64
    · refine lv_aload_n hx hb dX5_endOf_26 rfl (lv_at hl 0 rfl) ?_
      refine gf_X5_22 C hR hS.1 rfl dX5_endOf_27 ?_
      refine lv_iload_n hx hb dX5_endOf_30 rfl (lv_at hl 2 rfl) ?_
      refine r_zaldN (k := a) C hR (RS.z hS 6 60 rfl rfl) (by omega) (by decide) rfl dX5_endOf_31 ?_
      refine W.cut (fun z => z = bI (F 23 c0 = 1)) (fun z => F0 m 47 ls (.int z :: [.int (F 6 a), .int (4 * (F 23 c0))])) (fun z_47 hz_47 => ?_) (fun J_47 => ?_)
      · refine lv_icmp_ne (tgt := 62) hx hb dX5_endOf_47 (by decide) (fun c_47 => ?_) (fun c_47 => ?_)
        · refine lv_iconst (v := 0) hx hb dX5_endOf_62 (by decide) ?_
          exact J_63 _ (by rw [hz_47] at c_47; simp [c_47])
        · refine lv_bipush (v := 24) hx hb dX5_endOf_50 (by decide) ?_
          refine lv_aload_n hx hb dX5_endOf_52 rfl (lv_at hl 0 rfl) ?_
          refine gf_X5_65 C hR hS.1 rfl dX5_endOf_53 ?_
          refine lv_iload_n hx hb dX5_endOf_56 rfl (lv_at hl 1 rfl) ?_
          refine r_ialdN (k := c0) C hR (RS.i hS 23 40 rfl rfl) (by omega) (by decide) rfl dX5_endOf_57 ?_
          refine lv_imul hx hb dX5_endOf_58 ?_
          refine lv_goto (tgt := 63) hx hb dX5_endOf_59 (by decide) ?_
          exact J_63 _ (by rw [hz_47] at c_47; simp [c_47])
      · refine lv_aload_n hx hb dX5_endOf_32 rfl (lv_at hl 0 rfl) ?_
        refine gf_X5_65 C hR hS.1 rfl dX5_endOf_33 ?_
        refine lv_iload_n hx hb dX5_endOf_36 rfl (lv_at hl 1 rfl) ?_
        refine r_ialdN (k := c0) C hR (RS.i hS 23 40 rfl rfl) (by omega) (by decide) rfl dX5_endOf_37 ?_
        refine lv_iconst (v := 1) hx hb dX5_endOf_38 (by decide) ?_
        refine lv_icmp_ne (tgt := 46) hx hb dX5_endOf_39 (by decide) (fun c_39 => ?_) (fun c_39 => ?_)
        · refine lv_iconst (v := 0) hx hb dX5_endOf_46 (by decide) ?_
          exact J_47 _ (bI_f (by simp [c_39]))
        · refine lv_iconst (v := 1) hx hb dX5_endOf_42 (by decide) ?_
          refine lv_goto (tgt := 47) hx hb dX5_endOf_43 (by decide) ?_
          exact J_47 _ (bI_t (by simp [c_39]))
  · refine lv_iconst (v := 2) hx hb dX5_endOf_9 (by decide) ?_
    refine lv_aload_n hx hb dX5_endOf_10 rfl (lv_at hl 0 rfl) ?_
    refine gf_X5_65 C hR hS.1 rfl dX5_endOf_11 ?_
    refine lv_iload_n hx hb dX5_endOf_14 rfl (lv_at hl 1 rfl) ?_
    refine r_ialdN (k := c0) C hR (RS.i hS 23 40 rfl rfl) (by omega) (by decide) rfl dX5_endOf_15 ?_
    refine lv_imul hx hb dX5_endOf_16 ?_
    exact ro_iret C hr hlk (by simp [rEnd, c_6]) dX5_endOf_17

def rPart (v : Nat → Int32) (F : Nat → Nat → Int32) (c q : Int32) : Bool := inB c 0 (v 19 - 1) && inB q 0 (F 24 c.toNatClampNeg - 1)
set_option maxHeartbeats 4000000 in
set_option maxRecDepth 100000 in
theorem c_X5_isPart (l : Launch) (D : va_G) (cs : Nat → ClassId) (M : wM) (X : Nat) (ad : Nat → Nat) (v : Nat → Int32) (F : Nat → Nat → Int32) (G : Nat → Nat → Int64) (hS : RS cs M X ad v F G) (nc : Nat) (hnc : v 19 = nI nc) (hc40 : nc ≤ 40) (p1 q : Int32) : Met l yX5_isPart (mw yX5_isPart cX5_isPart 3 (some .boolean)) { frames := 2, cells := 0, slots := 0, locals := 43 } (roP D cs M [.ref X, .int p1, .int q]) (vp_Si (fun r => r = bI (rPart v F p1 q = true))) 0 0 noA := by
  refine ro_met rfl (Nat.le_of_ble_eq_true rfl) ?_
  intro p e s m below meth c ls C hR hr hlk hl
  have C : kx D cs p m c cX5_isPart 3 s _ RX5 := C
  have hx := C.1.1
  have hb := C.1.2.1
  have hl : lv_has ls 3 [(0, .ref X), (1, .int p1), (2, .int q)] := hl
  refine lv_aload_n hx hb dX5_isPart_0 rfl (lv_at hl 0 rfl) ?_
  refine lv_iload_n hx hb dX5_isPart_1 rfl (lv_at hl 1 rfl) ?_
  refine ro_goI (ro_V (As := [.int p1]) (rest := []) C hR st_X5_224 (c_X5_isCurve l D cs _ X ad v F G hS p1) hS.1 rfl rfl ⟨rfl, rfl, Nat.le_of_ble_eq_true rfl, Nat.le_of_ble_eq_true rfl⟩ rfl hl.1 rfl (Nat.le_of_ble_eq_true rfl) dX5_isPart_2 ⟨Nat.le_of_ble_eq_true rfl, Nat.le_of_ble_eq_true rfl⟩) (fun r_2 h_2 => ?_)
  refine lv_if_eq (tgt := 28) hx hb dX5_isPart_5 (by decide) (fun c_5 => ?_) (fun c_5 => ?_)
  · have c_5 : ¬ (inB p1 0 (v 19 - 1) = true) := bz0 h_2 c_5
    refine lv_iconst (v := 0) hx hb dX5_isPart_28 (by decide) ?_
    exact ro_zret C hr hlk rfl (bI_f (by simp [rPart, c_5])) dX5_isPart_29
  · have c_5 : inB p1 0 (v 19 - 1) = true := bz1 h_2 c_5
    obtain ⟨j, hjj, rfl⟩ := inP_nat c_5 hnc (by omega)
    have hclj := nI_clamp (n := j) (by omega)
    refine lv_iload_n hx hb dX5_isPart_8 rfl (lv_at hl 2 rfl) ?_
    refine lv_iconst (v := 0) hx hb dX5_isPart_9 (by decide) ?_
    refine lv_aload_n hx hb dX5_isPart_10 rfl (lv_at hl 0 rfl) ?_
    refine gf_X5_68 C hR hS.1 rfl dX5_isPart_11 ?_
    refine lv_iload_n hx hb dX5_isPart_14 rfl (lv_at hl 1 rfl) ?_
    refine r_ialdN (k := j) C hR (RS.i hS 24 40 rfl rfl) (by omega) (by decide) rfl dX5_isPart_15 ?_
    refine lv_iconst (v := 1) hx hb dX5_isPart_16 (by decide) ?_
    refine lv_isub hx hb dX5_isPart_17 ?_
    refine ro_goI (ro_S (As := [.int q, .int 0, .int ((F 24 j) - 1)]) (rest := []) C hR st_X5_109 (c_X5_in l D cs _ q 0 ((F 24 j) - 1)) ⟨rfl, rfl, Nat.le_of_ble_eq_true rfl, Nat.le_of_ble_eq_true rfl⟩ rfl hl.1 rfl (Nat.le_of_ble_eq_true rfl) dX5_isPart_18 ⟨Nat.le_of_ble_eq_true rfl, Nat.le_of_ble_eq_true rfl⟩) (fun r_18 h_18 => ?_)
    refine lv_if_eq (tgt := 28) hx hb dX5_isPart_21 (by decide) (fun c_21 => ?_) (fun c_21 => ?_)
    · have c_21 : ¬ (inB q 0 ((F 24 j) - 1) = true) := bz0 h_18 c_21
      refine lv_iconst (v := 0) hx hb dX5_isPart_28 (by decide) ?_
      exact ro_zret C hr hlk rfl (bI_f (by simp [rPart, c_5, c_21, hclj])) dX5_isPart_29
    · have c_21 : inB q 0 ((F 24 j) - 1) = true := bz1 h_18 c_21
      refine lv_iconst (v := 1) hx hb dX5_isPart_24 (by decide) ?_
      refine lv_goto (tgt := 29) hx hb dX5_isPart_25 (by decide) ?_
      exact ro_zret C hr hlk rfl (bI_t (by simp [rPart, c_5, c_21, hclj])) dX5_isPart_29


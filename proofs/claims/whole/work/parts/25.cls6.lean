def xA (E : Nat → Nat → Nat → Int32) (n0 : Nat → Int32) : Nat → Int32
  | 0 => 0
  | i + 1 => if nChord (E 0 i) n0 = true then xA E n0 i + (if E 0 i 3 ≤ n0 3 then 0 else 1) else xA E n0 i
def xB (E : Nat → Nat → Nat → Int32) (n0 : Nat → Int32) : Nat → Int32
  | 0 => 0
  | i + 1 => if nChord (E 0 i) n0 = true then xB E n0 i + (if n0 3 ≤ E 0 i 3 then 0 else 1) else xB E n0 i
def xTie (E : Nat → Nat → Nat → Int32) (n0 : Nat → Int32) (nn : Nat) : Int32 := if xA E n0 nn = xB E n0 nn then -nStem n0 else if xB E n0 nn ≤ xA E n0 nn then -1 else 1
def xSd (E : Nat → Nat → Nat → Int32) (n0 n1 : Nat → Int32) : Nat → Bool
  | 0 => decide (n0 4 = 0 ∨ n1 4 = 0)
  | i + 1 => xSd E n0 n1 i || decide (E 0 i 4 = 0 ∧ nBef n0 (E 0 i) = true ∧ nBef (E 0 i) n1 = true)
theorem xSd_s {E : Nat → Nat → Nat → Int32} {n0 n1 : Nat → Int32} {i : Nat} : xSd E n0 n1 (i + 1) = true ↔ (xSd E n0 n1 i = true ∨ (E 0 i 4 = 0 ∧ nBef n0 (E 0 i) = true ∧ nBef (E 0 i) n1 = true)) := by rw [xSd, Bool.or_eq_true, decide_eq_true_eq]
theorem xSd_mono {E : Nat → Nat → Nat → Int32} {n0 n1 : Nat → Int32} {i n : Nat} (h : xSd E n0 n1 i = true) (hn : i ≤ n) : xSd E n0 n1 n = true := by
  induction n with
  | zero => rw [show i = 0 by omega] at h; exact h
  | succ n ih =>
    by_cases e : i = n + 1
    · rw [← e]; exact h
    · exact xSd_s.mpr (Or.inl (ih (by omega)))
def xSlur (E : Nat → Nat → Nat → Int32) (n0 n1 : Nat → Int32) (nn : Nat) : Int32 := if xSd E n0 n1 nn = true then 1 else -1
set_option maxHeartbeats 4000000 in
set_option maxRecDepth 100000 in
theorem c_X4_tieSide (l : Launch) (D : va_G) (cs : Nat → ClassId) (M : wM) (Z : Nat) (lab ad : Nat → Nat) (w : Nat → Int32) (E : Nat → Nat → Nat → Int32) (J : Nat → Nat → Nat) (nn nb nc np : Nat) (NA BA CA PA : Nat → Option Nat) (hC : CSx cs lab M Z ad w E J nn nb nc np NA BA CA PA) (hnn : w 7 = nI nn) (hn60 : nn ≤ 60) (a : Nat) (n0 : Nat → Int32) (ha : M a = some (noteC n0)) : Met l yX4_tieSide (mw yX4_tieSide cX4_tieSide 5 (some .int)) { frames := 1, cells := 0, slots := 0, locals := 21 } (roP D cs M [.ref Z, .ref a]) (vp_Si (fun r => r = xTie E n0 nn)) 0 0 noA := by
  refine ro_met rfl (Nat.le_of_ble_eq_true rfl) ?_
  intro p e s m below meth c ls C hR hr hlk hl
  have C : kx D cs p m c cX4_tieSide 5 s _ RX4 := C
  have hx := C.1.1
  have hb := C.1.2.1
  have hl : lv_has ls 5 [(0, .ref Z), (1, .ref a)] := hl
  refine lv_iconst (v := 0) hx hb dX4_tieSide_0 (by decide) ?_
  refine lv_istore_n (lv' := [(2, .int 0), (0, .ref Z), (1, .ref a)]) hx hb dX4_tieSide_1 rfl hl (by decide) rfl (fun ls hl => ?_)
  refine lv_iconst (v := 0) hx hb dX4_tieSide_2 (by decide) ?_
  refine lv_istore_n (lv' := [(3, .int 0), (2, .int 0), (0, .ref Z), (1, .ref a)]) hx hb dX4_tieSide_3 rfl hl (by decide) rfl (fun ls hl => ?_)
  refine lv_iconst (v := 0) hx hb dX4_tieSide_4 (by decide) ?_
  refine lv_istore (lv' := [(4, .int 0), (3, .int 0), (2, .int 0), (0, .ref Z), (1, .ref a)]) hx hb dX4_tieSide_5 hl (by decide) rfl (fun ls hl => ?_)
  refine W.loop (σ := Nat × Int32 × Int32 × Array Slot) (fun ⟨i, x, y, ls⟩ => F0 m 7 ls []) (fun ⟨i, x, y, ls⟩ => (i ≤ nn) ∧ (x = xA E n0 i) ∧ (y = xB E n0 i) ∧ lv_has ls 5 [(4, .int (nI i)), (3, .int y), (2, .int x), (0, .ref Z), (1, .ref a)]) (fun ⟨i, x, y, ls⟩ => nn - i) ?_ (0, 0, 0, _) ⟨by omega, rfl, rfl, lv_sub hl [0, 1, 2, 3, 4] rfl⟩ rfl
  intro ⟨i, x, y, ls⟩ ⟨hi, ex, ey, hl⟩ ih_7
  show W _ _ _ _ _ _ _ _ _ _ _ _ _ _ _ (F0 m 7 ls [])
  have hl : lv_has ls 5 [(4, .int (nI i)), (3, .int y), (2, .int x), (0, .ref Z), (1, .ref a)] := hl
  refine lv_iload hx hb dX4_tieSide_7 (lv_at hl 0 rfl) ?_
  refine lv_aload_n hx hb dX4_tieSide_9 rfl (lv_at hl 3 rfl) ?_
  refine gf_X4_60 C hR (CSx.z hC) rfl dX4_tieSide_10 ?_
  refine top_eq (y := nI nn) hnn ?_
  refine lv_icmp_ge (tgt := 86) hx hb dX4_tieSide_13 (by decide) (fun c_13 => ?_) (fun c_13 => ?_)
  · have c_13 := cle_t (a := nn) (b := i) c_13 (by omega) (by omega)
    refine lv_iload_n hx hb dX4_tieSide_86 rfl (lv_at hl 2 rfl) ?_
    refine lv_iload_n hx hb dX4_tieSide_87 rfl (lv_at hl 1 rfl) ?_
    refine lv_icmp_eq (tgt := 102) hx hb dX4_tieSide_88 (by decide) (fun c_88 => ?_) (fun c_88 => ?_)
    · refine lv_aload_n hx hb dX4_tieSide_102 rfl (lv_at hl 4 rfl) ?_
      refine ro_goI (ro_V (As := []) (rest := []) C hR st_X4_214 (c_X2_stemSide l D cs _ a n0 ha) ha rfl rfl ⟨rfl, rfl, Nat.le_of_ble_eq_true rfl, Nat.le_of_ble_eq_true rfl⟩ rfl hl.1 rfl (Nat.le_of_ble_eq_true rfl) dX4_tieSide_103 ⟨Nat.le_of_ble_eq_true rfl, Nat.le_of_ble_eq_true rfl⟩) (fun r_103 h_103 => ?_)
      refine lv_ineg hx hb dX4_tieSide_106 ?_
      exact ro_iret C hr hlk (by have e : i = nn := (by omega); subst e; subst ex; subst ey; rw [xTie, if_pos c_88, h_103]) dX4_tieSide_107
    · refine lv_iload_n hx hb dX4_tieSide_91 rfl (lv_at hl 2 rfl) ?_
      refine lv_iload_n hx hb dX4_tieSide_92 rfl (lv_at hl 1 rfl) ?_
      refine lv_icmp_ge (tgt := 100) hx hb dX4_tieSide_93 (by decide) (fun c_93 => ?_) (fun c_93 => ?_)
      · refine lv_iconst (v := (-1)) hx hb dX4_tieSide_100 (by decide) ?_
        exact ro_iret C hr hlk (by have e : i = nn := (by omega); subst e; subst ex; subst ey; simp [xTie, c_88, c_93]) dX4_tieSide_101
      · refine lv_iconst (v := 1) hx hb dX4_tieSide_96 (by decide) ?_
        refine lv_goto (tgt := 101) hx hb dX4_tieSide_97 (by decide) ?_
        exact ro_iret C hr hlk (by have e : i = nn := (by omega); subst e; subst ex; subst ey; simp [xTie, c_88, c_93]) dX4_tieSide_101
  · have c_13 := cle_f (a := nn) (b := i) c_13 (by omega) (by omega)
    refine lv_aload_n hx hb dX4_tieSide_16 rfl (lv_at hl 3 rfl) ?_
    refine gf_X4_15 C hR (CSx.z hC) rfl dX4_tieSide_17 ?_
    refine lv_iload hx hb dX4_tieSide_20 (lv_at hl 0 rfl) ?_
    obtain ⟨a_22, ga_22, gn_22⟩ := CSx.note hC i (by omega)
    refine r_aaldN (k := i) C hR 5 (CSx.na hC) rfl (by omega) (by decide) rfl ga_22 dX4_tieSide_22 ?_
    refine lv_aload_n hx hb dX4_tieSide_23 rfl (lv_at hl 4 rfl) ?_
    refine ro_goI (ro_V (As := [.ref a]) (rest := []) C hR st_X4_211 (c_X2_isInChordOf l D cs _ a_22 a (E 0 i) n0 gn_22 ha) gn_22 rfl rfl ⟨rfl, rfl, Nat.le_of_ble_eq_true rfl, Nat.le_of_ble_eq_true rfl⟩ rfl hl.1 rfl (Nat.le_of_ble_eq_true rfl) dX4_tieSide_24 ⟨Nat.le_of_ble_eq_true rfl, Nat.le_of_ble_eq_true rfl⟩) (fun r_24 h_24 => ?_)
    refine lv_if_eq (tgt := 80) hx hb dX4_tieSide_27 (by decide) (fun c_27 => ?_) (fun c_27 => ?_)
    · have c_27 : ¬ (nChord (E 0 i) n0 = true) := bz0 h_24 c_27
      refine lv_iinc (v := nI (i + 1)) (lv' := [(4, .int (nI (i + 1))), (3, .int y), (2, .int x), (0, .ref Z), (1, .ref a)]) hx hb dX4_tieSide_80 hl (k := 0) rfl (by exact tn_add rfl rfl) (by decide) rfl (fun ls hl => ?_)
      refine lv_goto (tgt := 7) hx hb dX4_tieSide_83 (by decide) ?_
      exact ih_7 ((i + 1), x, y, _) ⟨by omega, by rw [xA, if_neg c_27, ← ex], by rw [xB, if_neg c_27, ← ey], lv_sub hl [0, 1, 2, 3, 4] rfl⟩ (by show nn - (i + 1) < nn - i; omega)
    · have c_27 : nChord (E 0 i) n0 = true := bz1 h_24 c_27
      refine lv_iload_n hx hb dX4_tieSide_30 rfl (lv_at hl 2 rfl) ?_
      refine W.cut (fun z => z = if E 0 i 3 ≤ n0 3 then 0 else 1) (fun z => F0 m 53 ls (.int z :: [.int x])) (fun z_53 hz_53 => ?_) (fun J_53 => ?_)
      · refine lv_iadd hx hb dX4_tieSide_53 ?_
        refine lv_istore_n (lv' := [(2, .int (x + z_53)), (4, .int (nI i)), (3, .int y), (0, .ref Z), (1, .ref a)]) hx hb dX4_tieSide_54 rfl hl (by decide) rfl (fun ls hl => ?_)
        refine lv_iload_n hx hb dX4_tieSide_55 rfl (lv_at hl 2 rfl) ?_
        refine W.cut (fun z => z = if n0 3 ≤ E 0 i 3 then 0 else 1) (fun z => F0 m 78 ls (.int z :: [.int y])) (fun z_78 hz_78 => ?_) (fun J_78 => ?_)
        · refine lv_iadd hx hb dX4_tieSide_78 ?_
          refine lv_istore_n (lv' := [(3, .int (y + z_78)), (2, .int (x + z_53)), (4, .int (nI i)), (0, .ref Z), (1, .ref a)]) hx hb dX4_tieSide_79 rfl hl (by decide) rfl (fun ls hl => ?_)
          refine lv_iinc (v := nI (i + 1)) (lv' := [(4, .int (nI (i + 1))), (3, .int (y + z_78)), (2, .int (x + z_53)), (0, .ref Z), (1, .ref a)]) hx hb dX4_tieSide_80 hl (k := 2) rfl (by exact tn_add rfl rfl) (by decide) rfl (fun ls hl => ?_)
          refine lv_goto (tgt := 7) hx hb dX4_tieSide_83 (by decide) ?_
          exact ih_7 ((i + 1), x + z_53, y + z_78, _) ⟨by omega, by rw [xA, if_pos c_27, ← ex, ← hz_53], by rw [xB, if_pos c_27, ← ey, ← hz_78], lv_sub hl [0, 1, 2, 3, 4] rfl⟩ (by show nn - (i + 1) < nn - i; omega)
        · refine lv_aload_n hx hb dX4_tieSide_56 rfl (lv_at hl 3 rfl) ?_
          refine gf_X4_15 C hR (CSx.z hC) rfl dX4_tieSide_57 ?_
          refine lv_iload hx hb dX4_tieSide_60 (lv_at hl 1 rfl) ?_
          obtain ⟨a_62, ga_62, gn_62⟩ := CSx.note hC i (by omega)
          refine r_aaldN (k := i) C hR 5 (CSx.na hC) rfl (by omega) (by decide) rfl ga_62 dX4_tieSide_62 ?_
          refine gf_X4_185 C hR gn_62 rfl dX4_tieSide_63 ?_
          refine lv_aload_n hx hb dX4_tieSide_66 rfl (lv_at hl 4 rfl) ?_
          refine gf_X4_185 C hR ha rfl dX4_tieSide_67 ?_
          refine lv_icmp_ge (tgt := 77) hx hb dX4_tieSide_70 (by decide) (fun c_70 => ?_) (fun c_70 => ?_)
          · refine lv_iconst (v := 0) hx hb dX4_tieSide_77 (by decide) ?_
            exact J_78 _ (by simp [c_70])
          · refine lv_iconst (v := 1) hx hb dX4_tieSide_73 (by decide) ?_
            refine lv_goto (tgt := 78) hx hb dX4_tieSide_74 (by decide) ?_
            exact J_78 _ (by simp [c_70])
      · refine lv_aload_n hx hb dX4_tieSide_31 rfl (lv_at hl 3 rfl) ?_
        refine gf_X4_15 C hR (CSx.z hC) rfl dX4_tieSide_32 ?_
        refine lv_iload hx hb dX4_tieSide_35 (lv_at hl 0 rfl) ?_
        obtain ⟨a_37, ga_37, gn_37⟩ := CSx.note hC i (by omega)
        refine r_aaldN (k := i) C hR 5 (CSx.na hC) rfl (by omega) (by decide) rfl ga_37 dX4_tieSide_37 ?_
        refine gf_X4_185 C hR gn_37 rfl dX4_tieSide_38 ?_
        refine lv_aload_n hx hb dX4_tieSide_41 rfl (lv_at hl 4 rfl) ?_
        refine gf_X4_185 C hR ha rfl dX4_tieSide_42 ?_
        refine lv_icmp_le (tgt := 52) hx hb dX4_tieSide_45 (by decide) (fun c_45 => ?_) (fun c_45 => ?_)
        · refine lv_iconst (v := 0) hx hb dX4_tieSide_52 (by decide) ?_
          exact J_53 _ (by simp [c_45])
        · refine lv_iconst (v := 1) hx hb dX4_tieSide_48 (by decide) ?_
          refine lv_goto (tgt := 53) hx hb dX4_tieSide_49 (by decide) ?_
          exact J_53 _ (by simp [c_45])

set_option maxHeartbeats 4000000 in
set_option maxRecDepth 100000 in
theorem c_X4_slurSide (l : Launch) (D : va_G) (cs : Nat → ClassId) (M : wM) (Z : Nat) (lab ad : Nat → Nat) (w : Nat → Int32) (E : Nat → Nat → Nat → Int32) (J : Nat → Nat → Nat) (nn nb nc np : Nat) (NA BA CA PA : Nat → Option Nat) (hC : CSx cs lab M Z ad w E J nn nb nc np NA BA CA PA) (hnn : w 7 = nI nn) (hn60 : nn ≤ 60) (a b : Nat) (n0 n1 : Nat → Int32) (ha : M a = some (noteC n0)) (hb0 : M b = some (noteC n1)) : Met l yX4_slurSide (mw yX4_slurSide cX4_slurSide 5 (some .int)) { frames := 1, cells := 0, slots := 0, locals := 21 } (roP D cs M [.ref Z, .ref a, .ref b]) (vp_Si (fun r => r = xSlur E n0 n1 nn)) 0 0 noA := by
  refine ro_met rfl (Nat.le_of_ble_eq_true rfl) ?_
  intro p e s m below meth c ls C hR hr hlk hl
  have C : kx D cs p m c cX4_slurSide 5 s _ RX4 := C
  have hx := C.1.1
  have hb := C.1.2.1
  have hl : lv_has ls 5 [(0, .ref Z), (1, .ref a), (2, .ref b)] := hl
  refine W.cut (fun z => z = bI (xSd E n0 n1 0 = true)) (fun z => F0 m 19 ls (.int z :: [])) (fun z_19 hz_19 => ?_) (fun J_19 => ?_)
  · refine lv_istore_n (lv' := [(3, .int z_19), (0, .ref Z), (1, .ref a), (2, .ref b)]) hx hb dX4_slurSide_19 rfl hl (by decide) rfl (fun ls hl => ?_)
    refine lv_iconst (v := 0) hx hb dX4_slurSide_20 (by decide) ?_
    refine lv_istore (lv' := [(4, .int 0), (3, .int z_19), (0, .ref Z), (1, .ref a), (2, .ref b)]) hx hb dX4_slurSide_21 hl (by decide) rfl (fun ls hl => ?_)
    refine W.loop (σ := Nat × Int32 × Array Slot) (fun ⟨i, z, ls⟩ => F0 m 23 ls []) (fun ⟨i, z, ls⟩ => (i ≤ nn) ∧ (z = bI (xSd E n0 n1 i = true)) ∧ lv_has ls 5 [(4, .int (nI i)), (3, .int z), (0, .ref Z), (1, .ref a), (2, .ref b)]) (fun ⟨i, z, ls⟩ => nn - i) ?_ (0, z_19, _) ⟨by omega, hz_19, lv_sub hl [0, 1, 2, 3, 4] rfl⟩ rfl
    intro ⟨i, z, ls⟩ ⟨hi, hz, hl⟩ ih_23
    show W _ _ _ _ _ _ _ _ _ _ _ _ _ _ _ (F0 m 23 ls [])
    have hl : lv_has ls 5 [(4, .int (nI i)), (3, .int z), (0, .ref Z), (1, .ref a), (2, .ref b)] := hl
    refine lv_iload hx hb dX4_slurSide_23 (lv_at hl 0 rfl) ?_
    refine lv_aload_n hx hb dX4_slurSide_25 rfl (lv_at hl 2 rfl) ?_
    refine gf_X4_60 C hR (CSx.z hC) rfl dX4_slurSide_26 ?_
    refine top_eq (y := nI nn) hnn ?_
    refine lv_icmp_ge (tgt := 89) hx hb dX4_slurSide_29 (by decide) (fun c_29 => ?_) (fun c_29 => ?_)
    · have c_29 := cle_t (a := nn) (b := i) c_29 (by omega) (by omega)
      refine lv_iload_n hx hb dX4_slurSide_89 rfl (lv_at hl 1 rfl) ?_
      refine lv_if_eq (tgt := 97) hx hb dX4_slurSide_90 (by decide) (fun c_90 => ?_) (fun c_90 => ?_)
      · have c_90 : ¬ (xSd E n0 n1 i = true) := bz0 hz c_90
        refine lv_iconst (v := (-1)) hx hb dX4_slurSide_97 (by decide) ?_
        exact ro_iret C hr hlk (by rw [xSlur, show nn = i by omega, if_neg c_90]) dX4_slurSide_98
      · have c_90 : xSd E n0 n1 i = true := bz1 hz c_90
        refine lv_iconst (v := 1) hx hb dX4_slurSide_93 (by decide) ?_
        refine lv_goto (tgt := 98) hx hb dX4_slurSide_94 (by decide) ?_
        exact ro_iret C hr hlk (by rw [xSlur, show nn = i by omega, if_pos c_90]) dX4_slurSide_98
    · have c_29 := cle_f (a := nn) (b := i) c_29 (by omega) (by omega)
      refine lv_iload_n hx hb dX4_slurSide_32 rfl (lv_at hl 1 rfl) ?_
      refine lv_if_ne (tgt := 89) hx hb dX4_slurSide_33 (by decide) (fun c_33 => ?_) (fun c_33 => ?_)
      · have c_33 : xSd E n0 n1 i = true := bz1 hz c_33
        refine lv_iload_n hx hb dX4_slurSide_89 rfl (lv_at hl 1 rfl) ?_
        refine lv_if_eq (tgt := 97) hx hb dX4_slurSide_90 (by decide) (fun c_90 => ?_) (fun c_90 => ?_)
        · have c_90 : ¬ (xSd E n0 n1 i = true) := bz0 hz c_90
          refine lv_iconst (v := (-1)) hx hb dX4_slurSide_97 (by decide) ?_
          exact ro_iret C hr hlk (absurd c_33 c_90) dX4_slurSide_98
        · have c_90 : xSd E n0 n1 i = true := bz1 hz c_90
          refine lv_iconst (v := 1) hx hb dX4_slurSide_93 (by decide) ?_
          refine lv_goto (tgt := 98) hx hb dX4_slurSide_94 (by decide) ?_
          exact ro_iret C hr hlk (by rw [xSlur, if_pos (xSd_mono c_33 hi)]) dX4_slurSide_98
      · have c_33 : ¬ (xSd E n0 n1 i = true) := bz0 hz c_33
        refine W.cut (fun z => z = bI (xSd E n0 n1 (i + 1) = true)) (fun z => F0 m 82 ls (.int z :: [])) (fun z_82 hz_82 => ?_) (fun J_82 => ?_)
        · refine lv_istore_n (lv' := [(3, .int z_82), (4, .int (nI i)), (0, .ref Z), (1, .ref a), (2, .ref b)]) hx hb dX4_slurSide_82 rfl hl (by decide) rfl (fun ls hl => ?_)
          refine lv_iinc (v := nI (i + 1)) (lv' := [(4, .int (nI (i + 1))), (3, .int z_82), (0, .ref Z), (1, .ref a), (2, .ref b)]) hx hb dX4_slurSide_83 hl (k := 1) rfl (by exact tn_add rfl rfl) (by decide) rfl (fun ls hl => ?_)
          refine lv_goto (tgt := 23) hx hb dX4_slurSide_86 (by decide) ?_
          exact ih_23 ((i + 1), z_82, _) ⟨by omega, hz_82, lv_sub hl [0, 1, 2, 3, 4] rfl⟩ (by show nn - (i + 1) < nn - i; omega)
        · refine lv_aload_n hx hb dX4_slurSide_36 rfl (lv_at hl 2 rfl) ?_
          refine gf_X4_15 C hR (CSx.z hC) rfl dX4_slurSide_37 ?_
          refine lv_iload hx hb dX4_slurSide_40 (lv_at hl 0 rfl) ?_
          obtain ⟨a_42, ga_42, gn_42⟩ := CSx.note hC i (by omega)
          refine r_aaldN (k := i) C hR 5 (CSx.na hC) rfl (by omega) (by decide) rfl ga_42 dX4_slurSide_42 ?_
          refine gf_X4_217 C hR gn_42 rfl dX4_slurSide_43 ?_
          refine lv_if_ne (tgt := 81) hx hb dX4_slurSide_46 (by decide) (fun c_46 => ?_) (fun c_46 => ?_)
          · refine lv_iconst (v := 0) hx hb dX4_slurSide_81 (by decide) ?_
            exact J_82 _ (bI_f (fun h => (xSd_s.mp h).elim c_33 (fun h => c_46 h.1)))
          · refine lv_aload_n hx hb dX4_slurSide_49 rfl (lv_at hl 3 rfl) ?_
            refine lv_aload_n hx hb dX4_slurSide_50 rfl (lv_at hl 2 rfl) ?_
            refine gf_X4_15 C hR (CSx.z hC) rfl dX4_slurSide_51 ?_
            refine lv_iload hx hb dX4_slurSide_54 (lv_at hl 0 rfl) ?_
            obtain ⟨a_56, ga_56, gn_56⟩ := CSx.note hC i (by omega)
            refine r_aaldN (k := i) C hR 5 (CSx.na hC) rfl (by omega) (by decide) rfl ga_56 dX4_slurSide_56 ?_
            refine ro_goI (ro_V (As := [.ref a_56]) (rest := []) C hR st_X4_203 (c_X2_isBefore l D cs _ a a_56 n0 (E 0 i) ha gn_56) ha rfl rfl ⟨rfl, rfl, Nat.le_of_ble_eq_true rfl, Nat.le_of_ble_eq_true rfl⟩ rfl hl.1 rfl (Nat.le_of_ble_eq_true rfl) dX4_slurSide_57 ⟨Nat.le_of_ble_eq_true rfl, Nat.le_of_ble_eq_true rfl⟩) (fun r_57 h_57 => ?_)
            refine lv_if_eq (tgt := 81) hx hb dX4_slurSide_60 (by decide) (fun c_60 => ?_) (fun c_60 => ?_)
            · have c_60 : ¬ (nBef n0 (E 0 i) = true) := bz0 h_57 c_60
              refine lv_iconst (v := 0) hx hb dX4_slurSide_81 (by decide) ?_
              exact J_82 _ (bI_f (fun h => (xSd_s.mp h).elim c_33 (fun h => c_60 h.2.1)))
            · have c_60 : nBef n0 (E 0 i) = true := bz1 h_57 c_60
              refine lv_aload_n hx hb dX4_slurSide_63 rfl (lv_at hl 2 rfl) ?_
              refine gf_X4_15 C hR (CSx.z hC) rfl dX4_slurSide_64 ?_
              refine lv_iload hx hb dX4_slurSide_67 (lv_at hl 0 rfl) ?_
              obtain ⟨a_69, ga_69, gn_69⟩ := CSx.note hC i (by omega)
              refine r_aaldN (k := i) C hR 5 (CSx.na hC) rfl (by omega) (by decide) rfl ga_69 dX4_slurSide_69 ?_
              refine lv_aload_n hx hb dX4_slurSide_70 rfl (lv_at hl 4 rfl) ?_
              refine ro_goI (ro_V (As := [.ref b]) (rest := []) C hR st_X4_203 (c_X2_isBefore l D cs _ a_69 b (E 0 i) n1 gn_69 hb0) gn_69 rfl rfl ⟨rfl, rfl, Nat.le_of_ble_eq_true rfl, Nat.le_of_ble_eq_true rfl⟩ rfl hl.1 rfl (Nat.le_of_ble_eq_true rfl) dX4_slurSide_71 ⟨Nat.le_of_ble_eq_true rfl, Nat.le_of_ble_eq_true rfl⟩) (fun r_71 h_71 => ?_)
              refine lv_if_eq (tgt := 81) hx hb dX4_slurSide_74 (by decide) (fun c_74 => ?_) (fun c_74 => ?_)
              · have c_74 : ¬ (nBef (E 0 i) n1 = true) := bz0 h_71 c_74
                refine lv_iconst (v := 0) hx hb dX4_slurSide_81 (by decide) ?_
                exact J_82 _ (bI_f (fun h => (xSd_s.mp h).elim c_33 (fun h => c_74 h.2.2)))
              · have c_74 : nBef (E 0 i) n1 = true := bz1 h_71 c_74
                refine lv_iconst (v := 1) hx hb dX4_slurSide_77 (by decide) ?_
                refine lv_goto (tgt := 82) hx hb dX4_slurSide_78 (by decide) ?_
                exact J_82 _ (bI_t (xSd_s.mpr (Or.inr ⟨c_46, c_60, c_74⟩)))
  · refine lv_aload_n hx hb dX4_slurSide_0 rfl (lv_at hl 1 rfl) ?_
    refine gf_X4_217 C hR ha rfl dX4_slurSide_1 ?_
    refine lv_if_eq (tgt := 14) hx hb dX4_slurSide_4 (by decide) (fun c_4 => ?_) (fun c_4 => ?_)
    · refine lv_iconst (v := 1) hx hb dX4_slurSide_14 (by decide) ?_
      refine lv_goto (tgt := 19) hx hb dX4_slurSide_15 (by decide) ?_
      exact J_19 _ (bI_t (by simp [xSd, c_4]))
    · refine lv_aload_n hx hb dX4_slurSide_7 rfl (lv_at hl 2 rfl) ?_
      refine gf_X4_217 C hR hb0 rfl dX4_slurSide_8 ?_
      refine lv_if_ne (tgt := 18) hx hb dX4_slurSide_11 (by decide) (fun c_11 => ?_) (fun c_11 => ?_)
      · refine lv_iconst (v := 0) hx hb dX4_slurSide_18 (by decide) ?_
        exact J_19 _ (bI_f (by simp [xSd, c_4, c_11]))
      · refine lv_iconst (v := 1) hx hb dX4_slurSide_14 (by decide) ?_
        refine lv_goto (tgt := 19) hx hb dX4_slurSide_15 (by decide) ?_
        exact J_19 _ (bI_t (by simp [xSd, c_4, c_11]))

def xCurve (w : Nat → Int32) (E : Nat → Nat → Nat → Int32) (J : Nat → Nat → Nat) (x v : Int32) : Int32 := if inB x 0 (w 10 - 1) = true then (if v.toInt = 0 then E 0 (J 1 x.toNatClampNeg) 0 else if v.toInt = 1 then E 0 (J 2 x.toNatClampNeg) 0 else if v.toInt = 2 then E 4 x.toNatClampNeg 4 else if v.toInt = 3 then cPc (E 0 (J 1 x.toNatClampNeg)) (E 0 (J 2 x.toNatClampNeg)) else if v.toInt = 4 then (if E 4 x.toNatClampNeg 3 = 0 then 0 else 1) else -9002) else -9001
def xPartV (w : Nat → Int32) (E : Nat → Nat → Nat → Int32) (J : Nat → Nat → Nat) (fp : Nat → Nat) (x y v : Int32) : Int32 := if xPart w E J x y = true then (if v.toInt = 0 then E 5 (xI fp x y) 1 else if v.toInt = 1 then E 5 (xI fp x y) 8 else if v.toInt = 2 then pBad (E 5 (xI fp x y) 8) else if v.toInt = 3 then (if E 5 (xI fp x y) 9 = 0 then 0 else 1) else if v.toInt = 4 then E 5 (xI fp x y) 6 else if v.toInt = 5 then pCc (E 4 (J 3 (xI fp x y))) else -9002) else -9001
def xRow (E : Nat → Nat → Nat → Int32) (i : Nat) (ax : Int32) : Nat → Int32 := if ax = 0 then E 7 i else E 8 i
def xPoint (w : Nat → Int32) (E : Nat → Nat → Nat → Int32) (J : Nat → Nat → Nat) (fp : Nat → Nat) (x y i ax : Int32) : Int32 := if xPart w E J x y = true then (if inB i 0 3 = true ∧ inB ax 0 1 = true then xRow E (xI fp x y) ax i.toNatClampNeg else -9002) else -9001
def xPoly (n : Int64) (a b c d : Int64) : Int64 := (64 - n) * (64 - n) * (64 - n) * a + 3 * (64 - n) * (64 - n) * n * b + 3 * (64 - n) * n * n * c + n * n * n * d
def xAlong (w : Nat → Int32) (E : Nat → Nat → Nat → Int32) (J : Nat → Nat → Nat) (fp : Nat → Nat) (x y n ax : Int32) : Int64 := if xPart w E J x y = true then (if inB n 0 64 = true ∧ inB ax 0 1 = true then xPoly n.toInt64 (xRow E (xI fp x y) ax 0).toInt64 (xRow E (xI fp x y) ax 1).toInt64 (xRow E (xI fp x y) ax 2).toInt64 (xRow E (xI fp x y) ax 3).toInt64 else -9000000000002) else -9000000000001
def xWithin (w : Nat → Int32) (E : Nat → Nat → Nat → Int32) (J : Nat → Nat → Nat) (fp : Nat → Nat) (x y z u : Int32) : Int32 := if xPart w E J x y = true ∧ xPart w E J z u = true then (if pWin (E 5 (xI fp x y)) (E 4 (J 3 (xI fp x y))) (E 5 (xI fp z u)) (E 4 (J 3 (xI fp z u))) = true then 1 else 0) else -9001
def xCount (w : Nat → Int32) (E : Nat → Nat → Nat → Int32) (np : Nat) (v : Int32) : Int32 := if v.toInt = 0 then w 6 else if v.toInt = 1 then w 7 else if v.toInt = 2 then w 8 else if v.toInt = 3 then w 9 else if v.toInt = 4 then w 10 else if v.toInt = 5 then nI (cnt (xCo E) np) else -9002
theorem inB_nat {x m : Int32} {n : Nat} (h : inB x 0 m = true) (hm : m = nI n) (hn : n < 1073741824) : ∃ j, j ≤ n ∧ x = nI j := by
  obtain ⟨h1, h2⟩ := of_decide_eq_true h
  obtain ⟨j, hj, e⟩ := nI_of h1
  refine ⟨j, ?_, e⟩
  rw [e, hm] at h2
  exact clt_f h2 (by omega) hj
set_option maxHeartbeats 4000000 in
set_option maxRecDepth 100000 in
theorem c_X4_curve (l : Launch) (D : va_G) (cs : Nat → ClassId) (M : wM) (Z : Nat) (lab ad : Nat → Nat) (w : Nat → Int32) (E : Nat → Nat → Nat → Int32) (J : Nat → Nat → Nat) (nn nb nc np : Nat) (NA BA CA PA : Nat → Option Nat) (hC : CSx cs lab M Z ad w E J nn nb nc np NA BA CA PA) (hnc : w 10 = nI nc) (hc40 : nc ≤ 40) (p1 v : Int32) : Met l yX4_curve (mw yX4_curve cX4_curve 4 (some .int)) { frames := 2, cells := 0, slots := 0, locals := 43 } (roP D cs M [.ref Z, .int p1, .int v]) (vp_Si (fun r => r = xCurve w E J p1 v)) 0 0 noA := by
  refine ro_met rfl (Nat.le_of_ble_eq_true rfl) ?_
  intro p e s m below meth c ls C hR hr hlk hl
  have C : kx D cs p m c cX4_curve 4 s _ RX4 := C
  have hx := C.1.1
  have hb := C.1.2.1
  have hl : lv_has ls 4 [(0, .ref Z), (1, .int p1), (2, .int v)] := hl
  refine lv_aload_n hx hb dX4_curve_0 rfl (lv_at hl 0 rfl) ?_
  refine lv_iload_n hx hb dX4_curve_1 rfl (lv_at hl 1 rfl) ?_
  refine ro_goI (ro_V (As := [.int p1]) (rest := []) C hR st_X4_96 (c_X4_isCurve l D cs _ Z lab ad w E J nn nb nc np NA BA CA PA hC p1) (CSx.z hC) rfl rfl ⟨rfl, rfl, Nat.le_of_ble_eq_true rfl, Nat.le_of_ble_eq_true rfl⟩ rfl hl.1 rfl (Nat.le_of_ble_eq_true rfl) dX4_curve_2 ⟨Nat.le_of_ble_eq_true rfl, Nat.le_of_ble_eq_true rfl⟩) (fun r_2 h_2 => ?_)
  refine lv_if_ne (tgt := 12) hx hb dX4_curve_5 (by decide) (fun c_5 => ?_) (fun c_5 => ?_)
  · have c_5 : inB p1 0 (w 10 - 1) = true := bz1 h_2 c_5
    obtain ⟨j, hjj, rfl⟩ := inP_nat c_5 hnc (by omega)
    have hclj := nI_clamp (n := j) (by omega)
    refine lv_aload_n hx hb dX4_curve_12 rfl (lv_at hl 0 rfl) ?_
    refine gf_X4_27 C hR (CSx.z hC) rfl dX4_curve_13 ?_
    refine lv_iload_n hx hb dX4_curve_16 rfl (lv_at hl 1 rfl) ?_
    obtain ⟨a_17, b1_17, b2_17, ga_17, gk_17, g1_17, g2_17⟩ := CSx.cur hC j (by omega)
    refine r_aaldN (k := j) C hR 3 (CSx.ca hC) rfl (by omega) (by decide) rfl ga_17 dX4_curve_17 ?_
    refine lv_astore_n (lv' := [(3, .ref a_17), (0, .ref Z), (1, .int (nI j)), (2, .int v)]) hx hb dX4_curve_18 rfl hl (by decide) rfl (fun ls hl => ?_)
    refine lv_iload_n hx hb dX4_curve_19 rfl (lv_at hl 3 rfl) ?_
    rcases sw_cases v 4 with h_20 | ⟨k_20, hk_20, e_20⟩
    · refine sw_out (tgt := 95) C h_20 dX4_curve_20 (by decide) ?_
      refine lv_sipush (v := (-9002)) hx hb dX4_curve_95 (by decide) ?_
      exact ro_iret C hr hlk (by rw [xCurve, if_pos c_5]; rw [if_neg (by omega), if_neg (by omega), if_neg (by omega), if_neg (by omega), if_neg (by omega)]) dX4_curve_98
    · match k_20, hk_20, e_20 with
      | 0, _, e_20 =>
        refine sw_in (tgt := 56) C 0 e_20 (by decide) (by decide) dX4_curve_20 rfl (by decide) ?_
        have hsw : v.toInt = 0 := by rw [e_20]; rfl
        refine lv_aload_n hx hb dX4_curve_56 rfl (lv_at hl 0 rfl) ?_
        refine gf_X4_99 C hR gk_17 rfl dX4_curve_57 ?_
        refine gf_X4_103 C hR g1_17 rfl dX4_curve_60 ?_
        exact ro_iret C hr hlk (by simp [xCurve, c_5, hsw, hclj]) dX4_curve_63
      | 1, _, e_20 =>
        refine sw_in (tgt := 64) C 1 e_20 (by decide) (by decide) dX4_curve_20 rfl (by decide) ?_
        have hsw : v.toInt = 1 := by rw [e_20]; rfl
        refine lv_aload_n hx hb dX4_curve_64 rfl (lv_at hl 0 rfl) ?_
        refine gf_X4_106 C hR gk_17 rfl dX4_curve_65 ?_
        refine gf_X4_103 C hR g2_17 rfl dX4_curve_68 ?_
        exact ro_iret C hr hlk (by simp [xCurve, c_5, hsw, hclj]) dX4_curve_71
      | 2, _, e_20 =>
        refine sw_in (tgt := 72) C 2 e_20 (by decide) (by decide) dX4_curve_20 rfl (by decide) ?_
        have hsw : v.toInt = 2 := by rw [e_20]; rfl
        refine lv_aload_n hx hb dX4_curve_72 rfl (lv_at hl 0 rfl) ?_
        refine gf_X4_109 C hR gk_17 rfl dX4_curve_73 ?_
        exact ro_iret C hr hlk (by simp [xCurve, c_5, hsw, hclj]) dX4_curve_76
      | 3, _, e_20 =>
        refine sw_in (tgt := 77) C 3 e_20 (by decide) (by decide) dX4_curve_20 rfl (by decide) ?_
        have hsw : v.toInt = 3 := by rw [e_20]; rfl
        refine lv_aload_n hx hb dX4_curve_77 rfl (lv_at hl 0 rfl) ?_
        refine ro_goI (ro_V (As := []) (rest := []) C hR st_X4_112 (c_X0_partCount l D cs _ a_17 b1_17 b2_17 (E 4 j) (E 0 (J 1 j)) (E 0 (J 2 j)) gk_17 g1_17 g2_17) gk_17 rfl rfl ⟨rfl, rfl, Nat.le_of_ble_eq_true rfl, Nat.le_of_ble_eq_true rfl⟩ rfl hl.1 rfl (Nat.le_of_ble_eq_true rfl) dX4_curve_78 ⟨Nat.le_of_ble_eq_true rfl, Nat.le_of_ble_eq_true rfl⟩) (fun r_78 h_78 => ?_)
        exact ro_iret C hr hlk (by simp [xCurve, c_5, hsw, hclj, h_78]) dX4_curve_81
      | 4, _, e_20 =>
        refine sw_in (tgt := 82) C 4 e_20 (by decide) (by decide) dX4_curve_20 rfl (by decide) ?_
        have hsw : v.toInt = 4 := by rw [e_20]; rfl
        refine lv_aload_n hx hb dX4_curve_82 rfl (lv_at hl 0 rfl) ?_
        refine gf_X4_115 C hR gk_17 rfl dX4_curve_83 ?_
        refine lv_if_eq (tgt := 93) hx hb dX4_curve_86 (by decide) (fun c_86 => ?_) (fun c_86 => ?_)
        · refine lv_iconst (v := 0) hx hb dX4_curve_93 (by decide) ?_
          exact ro_iret C hr hlk (by simp [xCurve, c_5, hsw, c_86, hclj]) dX4_curve_94
        · refine lv_iconst (v := 1) hx hb dX4_curve_89 (by decide) ?_
          refine lv_goto (tgt := 94) hx hb dX4_curve_90 (by decide) ?_
          exact ro_iret C hr hlk (by simp [xCurve, c_5, hsw, c_86, hclj]) dX4_curve_94
      | k + 5, hk_20, _ => exact absurd hk_20 (by omega)
  · have c_5 : ¬ (inB p1 0 (w 10 - 1) = true) := bz0 h_2 c_5
    refine lv_sipush (v := (-9001)) hx hb dX4_curve_8 (by decide) ?_
    exact ro_iret C hr hlk (by simp [xCurve, c_5]) dX4_curve_11

set_option maxHeartbeats 4000000 in
set_option maxRecDepth 100000 in
theorem c_X4_part (l : Launch) (D : va_G) (cs : Nat → ClassId) (M : wM) (Z : Nat) (lab ad : Nat → Nat) (w : Nat → Int32) (E : Nat → Nat → Nat → Int32) (J : Nat → Nat → Nat) (nn nb nc np : Nat) (NA BA CA PA : Nat → Option Nat) (hC : CSx cs lab M Z ad w E J nn nb nc np NA BA CA PA) (hnc : w 10 = nI nc) (hc40 : nc ≤ 40) (fp : Nat → Nat) (hfp : ∀ c, c < nc → E 4 c 5 = nI (fp c) ∧ fp c + pcN E J c ≤ np) (hp80 : np ≤ 80) (p1 p2 v : Int32) : Met l yX4_part (mw yX4_part cX4_part 5 (some .int)) { frames := 3, cells := 0, slots := 0, locals := 65 } (roP D cs M [.ref Z, .int p1, .int p2, .int v]) (vp_Si (fun r => r = xPartV w E J fp p1 p2 v)) 0 0 noA := by
  refine ro_met rfl (Nat.le_of_ble_eq_true rfl) ?_
  intro p e s m below meth c ls C hR hr hlk hl
  have C : kx D cs p m c cX4_part 5 s _ RX4 := C
  have hx := C.1.1
  have hb := C.1.2.1
  have hl : lv_has ls 5 [(0, .ref Z), (1, .int p1), (2, .int p2), (3, .int v)] := hl
  refine lv_aload_n hx hb dX4_part_0 rfl (lv_at hl 0 rfl) ?_
  refine lv_iload_n hx hb dX4_part_1 rfl (lv_at hl 1 rfl) ?_
  refine lv_iload_n hx hb dX4_part_2 rfl (lv_at hl 2 rfl) ?_
  refine ro_goQ (ro_V (As := [.int p1, .int p2]) (rest := []) C hR st_X4_119 (c_X4_findPart l D cs _ Z lab ad w E J nn nb nc np NA BA CA PA hC hnc (by omega) fp hfp (by omega) p1 p2) (CSx.z hC) rfl rfl ⟨rfl, rfl, Nat.le_of_ble_eq_true rfl, Nat.le_of_ble_eq_true rfl⟩ rfl hl.1 rfl (Nat.le_of_ble_eq_true rfl) dX4_part_3 ⟨Nat.le_of_ble_eq_true rfl, Nat.le_of_ble_eq_true rfl⟩) (fun r_3 h_3 => ?_)
  rcases r_3 with _ | b_3
  · have x_3 : xPart w E J p1 p2 = false := h_3.elim (fun q => q.2) (fun ⟨c, p, _, _, q1, q2, q3, _⟩ => absurd q3 (fpQ_some hC hfp q1 q2))
    refine lv_astoreN (lv' := [(4, .null), (0, .ref Z), (1, .int p1), (2, .int p2), (3, .int v)]) hx hb dX4_part_6 hl (by decide) rfl (fun ls hl => ?_)
    refine lv_aloadN hx hb dX4_part_8 (lv_at hl 0 rfl) ?_
    refine lv_ifnonnullN hx hb dX4_part_10 ?_
    refine lv_sipush (v := (-9001)) hx hb dX4_part_13 (by decide) ?_
    exact ro_iret C hr hlk (by simp [xPartV, x_3]) dX4_part_16
  · obtain ⟨j_3, p_3, rfl, rfl, hj_3, hp_3, hr_3, x_3⟩ : ∃ c p, p1 = nI c ∧ p2 = nI p ∧ c < nc ∧ p < pcN E J c ∧ some b_3 = PA (fp c + p) ∧ xPart w E J p1 p2 = true := h_3.elim (fun q => by cases q.1) id
    have hf_3 := (hfp j_3 hj_3).2
    have hq_3 := pcN_le E J j_3
    have hI_3 := xI_eq fp (j := j_3) (p := p_3) (by omega) (by omega)
    obtain ⟨d_3, cp_3, hp9_3, b1_3, b2_3, ga_3, gp_3, gl_3, gc_3, gh_3⟩ := CSx.part hC (fp j_3 + p_3) (by omega)
    have e_3 : b_3 = d_3 := Option.some.inj (hr_3.trans ga_3)
    subst e_3
    obtain ⟨fx_h3, fy_h3, h1_h3, h2_h3, h3_h3, h4_h3, h5_h3, h6_h3⟩ := gh_3
    refine lv_astore (lv' := [(4, .ref b_3), (0, .ref Z), (1, .int (nI j_3)), (2, .int (nI p_3)), (3, .int v)]) hx hb dX4_part_6 hl (by decide) rfl (fun ls hl => ?_)
    refine lv_aload hx hb dX4_part_8 (lv_at hl 0 rfl) ?_
    refine lv_ifnonnull (tgt := 17) hx hb dX4_part_10 (by decide) ?_
    refine lv_iload_n hx hb dX4_part_17 rfl (lv_at hl 4 rfl) ?_
    rcases sw_cases v 5 with h_18 | ⟨k_18, hk_18, e_18⟩
    · refine sw_out (tgt := 105) C h_18 dX4_part_18 (by decide) ?_
      refine lv_sipush (v := (-9002)) hx hb dX4_part_105 (by decide) ?_
      exact ro_iret C hr hlk (by rw [xPartV, if_pos x_3]; rw [if_neg (by omega), if_neg (by omega), if_neg (by omega), if_neg (by omega), if_neg (by omega), if_neg (by omega)]) dX4_part_108
    · match k_18, hk_18, e_18 with
      | 0, _, e_18 =>
        refine sw_in (tgt := 56) C 0 e_18 (by decide) (by decide) dX4_part_18 rfl (by decide) ?_
        have hsw : v.toInt = 0 := by rw [e_18]; rfl
        refine lv_aload hx hb dX4_part_56 (lv_at hl 0 rfl) ?_
        refine gf_X4_123 C hR gp_3 rfl dX4_part_58 ?_
        exact ro_iret C hr hlk (by simp [xPartV, x_3, hsw, hI_3]) dX4_part_61
      | 1, _, e_18 =>
        refine sw_in (tgt := 62) C 1 e_18 (by decide) (by decide) dX4_part_18 rfl (by decide) ?_
        have hsw : v.toInt = 1 := by rw [e_18]; rfl
        refine lv_aload hx hb dX4_part_62 (lv_at hl 0 rfl) ?_
        refine gf_X4_89 C hR gp_3 rfl dX4_part_64 ?_
        exact ro_iret C hr hlk (by simp [xPartV, x_3, hsw, hI_3]) dX4_part_67
      | 2, _, e_18 =>
        refine sw_in (tgt := 68) C 2 e_18 (by decide) (by decide) dX4_part_18 rfl (by decide) ?_
        have hsw : v.toInt = 2 := by rw [e_18]; rfl
        refine lv_aload hx hb dX4_part_68 (lv_at hl 0 rfl) ?_
        refine lv_aload hx hb dX4_part_70 (lv_at hl 0 rfl) ?_
        refine gf_X4_89 C hR gp_3 rfl dX4_part_72 ?_
        refine ro_goI (ro_V (As := [.int (E 5 (fp j_3 + p_3) 8)]) (rest := []) C hR st_X4_126 (c_X3_badness l D cs _ b_3 (E 5 (fp j_3 + p_3) 8)) gp_3 rfl rfl ⟨rfl, rfl, Nat.le_of_ble_eq_true rfl, Nat.le_of_ble_eq_true rfl⟩ rfl hl.1 rfl (Nat.le_of_ble_eq_true rfl) dX4_part_75 ⟨Nat.le_of_ble_eq_true rfl, Nat.le_of_ble_eq_true rfl⟩) (fun r_75 h_75 => ?_)
        exact ro_iret C hr hlk (by simp [xPartV, x_3, hsw, hI_3, h_75]) dX4_part_78
      | 3, _, e_18 =>
        refine sw_in (tgt := 79) C 3 e_18 (by decide) (by decide) dX4_part_18 rfl (by decide) ?_
        have hsw : v.toInt = 3 := by rw [e_18]; rfl
        refine lv_aload hx hb dX4_part_79 (lv_at hl 0 rfl) ?_
        refine gf_X4_130 C hR gp_3 rfl dX4_part_81 ?_
        refine lv_if_eq (tgt := 91) hx hb dX4_part_84 (by decide) (fun c_84 => ?_) (fun c_84 => ?_)
        · refine lv_iconst (v := 0) hx hb dX4_part_91 (by decide) ?_
          exact ro_iret C hr hlk (by simp [xPartV, x_3, hsw, c_84, hI_3]) dX4_part_92
        · refine lv_iconst (v := 1) hx hb dX4_part_87 (by decide) ?_
          refine lv_goto (tgt := 92) hx hb dX4_part_88 (by decide) ?_
          exact ro_iret C hr hlk (by simp [xPartV, x_3, hsw, c_84, hI_3]) dX4_part_92
      | 4, _, e_18 =>
        refine sw_in (tgt := 93) C 4 e_18 (by decide) (by decide) dX4_part_18 rfl (by decide) ?_
        have hsw : v.toInt = 4 := by rw [e_18]; rfl
        refine lv_aload hx hb dX4_part_93 (lv_at hl 0 rfl) ?_
        refine gf_X4_133 C hR gp_3 rfl dX4_part_95 ?_
        exact ro_iret C hr hlk (by simp [xPartV, x_3, hsw, hI_3]) dX4_part_98
      | 5, _, e_18 =>
        refine sw_in (tgt := 99) C 5 e_18 (by decide) (by decide) dX4_part_18 rfl (by decide) ?_
        have hsw : v.toInt = 5 := by rw [e_18]; rfl
        refine lv_aload hx hb dX4_part_99 (lv_at hl 0 rfl) ?_
        refine ro_goI (ro_V (As := []) (rest := []) C hR st_X4_136 (c_X3_candidateCount l D cs _ b_3 cp_3 hp9_3 (E 5 (fp j_3 + p_3)) (E 4 (J 3 (fp j_3 + p_3))) b1_3 b2_3 gp_3 gc_3) gp_3 rfl rfl ⟨rfl, rfl, Nat.le_of_ble_eq_true rfl, Nat.le_of_ble_eq_true rfl⟩ rfl hl.1 rfl (Nat.le_of_ble_eq_true rfl) dX4_part_101 ⟨Nat.le_of_ble_eq_true rfl, Nat.le_of_ble_eq_true rfl⟩) (fun r_101 h_101 => ?_)
        exact ro_iret C hr hlk (by simp [xPartV, x_3, hsw, hI_3, h_101]) dX4_part_104
      | k + 6, hk_18, _ => exact absurd hk_18 (by omega)

set_option maxHeartbeats 4000000 in
set_option maxRecDepth 100000 in
theorem c_X4_point (l : Launch) (D : va_G) (cs : Nat → ClassId) (M : wM) (Z : Nat) (lab ad : Nat → Nat) (w : Nat → Int32) (E : Nat → Nat → Nat → Int32) (J : Nat → Nat → Nat) (nn nb nc np : Nat) (NA BA CA PA : Nat → Option Nat) (hC : CSx cs lab M Z ad w E J nn nb nc np NA BA CA PA) (hnc : w 10 = nI nc) (hc40 : nc ≤ 40) (fp : Nat → Nat) (hfp : ∀ c, c < nc → E 4 c 5 = nI (fp c) ∧ fp c + pcN E J c ≤ np) (hp80 : np ≤ 80) (p1 p2 i ax : Int32) : Met l yX4_point (mw yX4_point cX4_point 6 (some .int)) { frames := 3, cells := 0, slots := 0, locals := 65 } (roP D cs M [.ref Z, .int p1, .int p2, .int i, .int ax]) (vp_Si (fun r => r = xPoint w E J fp p1 p2 i ax)) 0 0 noA := by
  refine ro_met rfl (Nat.le_of_ble_eq_true rfl) ?_
  intro p e s m below meth c ls C hR hr hlk hl
  have C : kx D cs p m c cX4_point 6 s _ RX4 := C
  have hx := C.1.1
  have hb := C.1.2.1
  have hl : lv_has ls 6 [(0, .ref Z), (1, .int p1), (2, .int p2), (3, .int i), (4, .int ax)] := hl
  refine lv_aload_n hx hb dX4_point_0 rfl (lv_at hl 0 rfl) ?_
  refine lv_iload_n hx hb dX4_point_1 rfl (lv_at hl 1 rfl) ?_
  refine lv_iload_n hx hb dX4_point_2 rfl (lv_at hl 2 rfl) ?_
  refine ro_goQ (ro_V (As := [.int p1, .int p2]) (rest := []) C hR st_X4_119 (c_X4_findPart l D cs _ Z lab ad w E J nn nb nc np NA BA CA PA hC hnc (by omega) fp hfp (by omega) p1 p2) (CSx.z hC) rfl rfl ⟨rfl, rfl, Nat.le_of_ble_eq_true rfl, Nat.le_of_ble_eq_true rfl⟩ rfl hl.1 rfl (Nat.le_of_ble_eq_true rfl) dX4_point_3 ⟨Nat.le_of_ble_eq_true rfl, Nat.le_of_ble_eq_true rfl⟩) (fun r_3 h_3 => ?_)
  rcases r_3 with _ | b_3
  · have x_3 : xPart w E J p1 p2 = false := h_3.elim (fun q => q.2) (fun ⟨c, p, _, _, q1, q2, q3, _⟩ => absurd q3 (fpQ_some hC hfp q1 q2))
    refine lv_astoreN (lv' := [(5, .null), (0, .ref Z), (1, .int p1), (2, .int p2), (3, .int i), (4, .int ax)]) hx hb dX4_point_6 hl (by decide) rfl (fun ls hl => ?_)
    refine lv_aloadN hx hb dX4_point_8 (lv_at hl 0 rfl) ?_
    refine lv_ifnonnullN hx hb dX4_point_10 ?_
    refine lv_sipush (v := (-9001)) hx hb dX4_point_13 (by decide) ?_
    exact ro_iret C hr hlk (by simp [xPoint, x_3]) dX4_point_16
  · obtain ⟨j_3, p_3, rfl, rfl, hj_3, hp_3, hr_3, x_3⟩ : ∃ c p, p1 = nI c ∧ p2 = nI p ∧ c < nc ∧ p < pcN E J c ∧ some b_3 = PA (fp c + p) ∧ xPart w E J p1 p2 = true := h_3.elim (fun q => by cases q.1) id
    have hf_3 := (hfp j_3 hj_3).2
    have hq_3 := pcN_le E J j_3
    have hI_3 := xI_eq fp (j := j_3) (p := p_3) (by omega) (by omega)
    obtain ⟨d_3, cp_3, hp9_3, b1_3, b2_3, ga_3, gp_3, gl_3, gc_3, gh_3⟩ := CSx.part hC (fp j_3 + p_3) (by omega)
    have e_3 : b_3 = d_3 := Option.some.inj (hr_3.trans ga_3)
    subst e_3
    obtain ⟨fx_h3, fy_h3, h1_h3, h2_h3, h3_h3, h4_h3, h5_h3, h6_h3⟩ := gh_3
    refine lv_astore (lv' := [(5, .ref b_3), (0, .ref Z), (1, .int (nI j_3)), (2, .int (nI p_3)), (3, .int i), (4, .int ax)]) hx hb dX4_point_6 hl (by decide) rfl (fun ls hl => ?_)
    refine lv_aload hx hb dX4_point_8 (lv_at hl 0 rfl) ?_
    refine lv_ifnonnull (tgt := 17) hx hb dX4_point_10 (by decide) ?_
    refine lv_iconst (v := 0) hx hb dX4_point_17 (by decide) ?_
    refine lv_iload_n hx hb dX4_point_18 rfl (lv_at hl 4 rfl) ?_
    refine lv_iconst (v := 3) hx hb dX4_point_19 (by decide) ?_
    refine ro_goI (ro_S (As := [.int 0, .int i, .int 3]) (rest := []) C hR st_X4_48 (c_X4_isFrom l D cs _ 0 i 3) ⟨rfl, rfl, Nat.le_of_ble_eq_true rfl, Nat.le_of_ble_eq_true rfl⟩ rfl hl.1 rfl (Nat.le_of_ble_eq_true rfl) dX4_point_20 ⟨Nat.le_of_ble_eq_true rfl, Nat.le_of_ble_eq_true rfl⟩) (fun r_20 h_20 => ?_)
    refine lv_if_eq (tgt := 36) hx hb dX4_point_23 (by decide) (fun c_23 => ?_) (fun c_23 => ?_)
    · have c_23 : ¬ (inB i 0 3 = true) := bz0 h_20 c_23
      refine lv_sipush (v := (-9002)) hx hb dX4_point_36 (by decide) ?_
      exact ro_iret C hr hlk (by simp [xPoint, x_3, c_23, hI_3]) dX4_point_39
    · have c_23 : inB i 0 3 = true := bz1 h_20 c_23
      refine lv_iconst (v := 0) hx hb dX4_point_26 (by decide) ?_
      refine lv_iload hx hb dX4_point_27 (lv_at hl 5 rfl) ?_
      refine lv_iconst (v := 1) hx hb dX4_point_29 (by decide) ?_
      refine ro_goI (ro_S (As := [.int 0, .int ax, .int 1]) (rest := []) C hR st_X4_48 (c_X4_isFrom l D cs _ 0 ax 1) ⟨rfl, rfl, Nat.le_of_ble_eq_true rfl, Nat.le_of_ble_eq_true rfl⟩ rfl hl.1 rfl (Nat.le_of_ble_eq_true rfl) dX4_point_30 ⟨Nat.le_of_ble_eq_true rfl, Nat.le_of_ble_eq_true rfl⟩) (fun r_30 h_30 => ?_)
      refine lv_if_ne (tgt := 40) hx hb dX4_point_33 (by decide) (fun c_33 => ?_) (fun c_33 => ?_)
      · have c_33 : inB ax 0 1 = true := bz1 h_30 c_33
        obtain ⟨i0, hi0, rfl⟩ := inB_nat c_23 (n := 3) rfl (by decide)
        have hcli := nI_clamp (n := i0) (by omega)
        refine lv_aload hx hb dX4_point_40 (lv_at hl 0 rfl) ?_
        refine gf_X4_139 C hR gp_3 rfl dX4_point_42 ?_
        refine lv_iload hx hb dX4_point_45 (lv_at hl 5 rfl) ?_
        refine ro_goQ (ro_V (As := [.int ax]) (rest := []) C hR st_X4_142 (c_X1_row l D cs _ hp9_3 fx_h3 fy_h3 (E 6 (fp j_3 + p_3)) h1_h3 ax) h1_h3 rfl rfl ⟨rfl, rfl, Nat.le_of_ble_eq_true rfl, Nat.le_of_ble_eq_true rfl⟩ rfl hl.1 rfl (Nat.le_of_ble_eq_true rfl) dX4_point_47 ⟨Nat.le_of_ble_eq_true rfl, Nat.le_of_ble_eq_true rfl⟩) (fun r_47 h_47 => ?_)
        rcases r_47 with _ | b_47
        · cases h_47
        · have h_47 := Option.some.inj h_47
          obtain ⟨gR_47, hg1_47, hg2_47⟩ : ∃ g, M b_47 = some (arC cs 4 g) ∧ g = xRow E (fp j_3 + p_3) ax := by rw [h_47]; unfold xRow; by_cases q : ax = 0; exact ⟨_, by rw [if_pos q]; exact h2_h3, by rw [if_pos q]⟩; exact ⟨_, by rw [if_neg q]; exact h3_h3, by rw [if_neg q]⟩
          refine lv_iload_n hx hb dX4_point_50 rfl (lv_at hl 4 rfl) ?_
          refine r_ialdN (k := i0) C hR hg1_47 (by omega) (by decide) rfl dX4_point_51 ?_
          exact ro_iret C hr hlk (by rw [xPoint, if_pos x_3, if_pos ⟨c_23, c_33⟩, hI_3, hcli, hg2_47]) dX4_point_52
      · have c_33 : ¬ (inB ax 0 1 = true) := bz0 h_30 c_33
        refine lv_sipush (v := (-9002)) hx hb dX4_point_36 (by decide) ?_
        exact ro_iret C hr hlk (by simp [xPoint, x_3, c_23, c_33, hI_3]) dX4_point_39

set_option maxHeartbeats 4000000 in
set_option maxRecDepth 100000 in
theorem c_X4_along (l : Launch) (D : va_G) (cs : Nat → ClassId) (M : wM) (Z : Nat) (lab ad : Nat → Nat) (w : Nat → Int32) (E : Nat → Nat → Nat → Int32) (J : Nat → Nat → Nat) (nn nb nc np : Nat) (NA BA CA PA : Nat → Option Nat) (hC : CSx cs lab M Z ad w E J nn nb nc np NA BA CA PA) (hnc : w 10 = nI nc) (hc40 : nc ≤ 40) (fp : Nat → Nat) (hfp : ∀ c, c < nc → E 4 c 5 = nI (fp c) ∧ fp c + pcN E J c ≤ np) (hp80 : np ≤ 80) (p1 p2 n ax : Int32) : Met l yX4_along (mw yX4_along cX4_along 11 (some .long)) { frames := 3, cells := 0, slots := 0, locals := 65 } (roP D cs M [.ref Z, .int p1, .int p2, .int n, .int ax]) (vp_Sl (fun r => r = xAlong w E J fp p1 p2 n ax)) 0 0 noA := by
  refine ro_met rfl (Nat.le_of_ble_eq_true rfl) ?_
  intro p e s m below meth c ls C hR hr hlk hl
  have C : kx D cs p m c cX4_along 11 s _ RX4 := C
  have hx := C.1.1
  have hb := C.1.2.1
  have hl : lv_has ls 11 [(0, .ref Z), (1, .int p1), (2, .int p2), (3, .int n), (4, .int ax)] := hl
  refine lv_aload_n hx hb dX4_along_0 rfl (lv_at hl 0 rfl) ?_
  refine lv_iload_n hx hb dX4_along_1 rfl (lv_at hl 1 rfl) ?_
  refine lv_iload_n hx hb dX4_along_2 rfl (lv_at hl 2 rfl) ?_
  refine ro_goQ (ro_V (As := [.int p1, .int p2]) (rest := []) C hR st_X4_119 (c_X4_findPart l D cs _ Z lab ad w E J nn nb nc np NA BA CA PA hC hnc (by omega) fp hfp (by omega) p1 p2) (CSx.z hC) rfl rfl ⟨rfl, rfl, Nat.le_of_ble_eq_true rfl, Nat.le_of_ble_eq_true rfl⟩ rfl hl.1 rfl (Nat.le_of_ble_eq_true rfl) dX4_along_3 ⟨Nat.le_of_ble_eq_true rfl, Nat.le_of_ble_eq_true rfl⟩) (fun r_3 h_3 => ?_)
  rcases r_3 with _ | b_3
  · have x_3 : xPart w E J p1 p2 = false := h_3.elim (fun q => q.2) (fun ⟨c, p, _, _, q1, q2, q3, _⟩ => absurd q3 (fpQ_some hC hfp q1 q2))
    refine lv_astoreN (lv' := [(5, .null), (0, .ref Z), (1, .int p1), (2, .int p2), (3, .int n), (4, .int ax)]) hx hb dX4_along_6 hl (by decide) rfl (fun ls hl => ?_)
    refine lv_aloadN hx hb dX4_along_8 (lv_at hl 0 rfl) ?_
    refine lv_ifnonnullN hx hb dX4_along_10 ?_
    refine lv_ldc2 (v := (-9000000000001)) hx hb C.1.2.2.2.1 (C.1.2.2.2.2 _ wm_504) dX4_along_13 ?_
    exact ro_lret C hr hlk (by simp [xAlong, x_3]) dX4_along_16
  · obtain ⟨j_3, p_3, rfl, rfl, hj_3, hp_3, hr_3, x_3⟩ : ∃ c p, p1 = nI c ∧ p2 = nI p ∧ c < nc ∧ p < pcN E J c ∧ some b_3 = PA (fp c + p) ∧ xPart w E J p1 p2 = true := h_3.elim (fun q => by cases q.1) id
    have hf_3 := (hfp j_3 hj_3).2
    have hq_3 := pcN_le E J j_3
    have hI_3 := xI_eq fp (j := j_3) (p := p_3) (by omega) (by omega)
    obtain ⟨d_3, cp_3, hp9_3, b1_3, b2_3, ga_3, gp_3, gl_3, gc_3, gh_3⟩ := CSx.part hC (fp j_3 + p_3) (by omega)
    have e_3 : b_3 = d_3 := Option.some.inj (hr_3.trans ga_3)
    subst e_3
    obtain ⟨fx_h3, fy_h3, h1_h3, h2_h3, h3_h3, h4_h3, h5_h3, h6_h3⟩ := gh_3
    refine lv_astore (lv' := [(5, .ref b_3), (0, .ref Z), (1, .int (nI j_3)), (2, .int (nI p_3)), (3, .int n), (4, .int ax)]) hx hb dX4_along_6 hl (by decide) rfl (fun ls hl => ?_)
    refine lv_aload hx hb dX4_along_8 (lv_at hl 0 rfl) ?_
    refine lv_ifnonnull (tgt := 17) hx hb dX4_along_10 (by decide) ?_
    refine lv_iconst (v := 0) hx hb dX4_along_17 (by decide) ?_
    refine lv_iload_n hx hb dX4_along_18 rfl (lv_at hl 4 rfl) ?_
    refine lv_bipush (v := 64) hx hb dX4_along_19 (by decide) ?_
    refine ro_goI (ro_S (As := [.int 0, .int n, .int 64]) (rest := []) C hR st_X4_48 (c_X4_isFrom l D cs _ 0 n 64) ⟨rfl, rfl, Nat.le_of_ble_eq_true rfl, Nat.le_of_ble_eq_true rfl⟩ rfl hl.1 rfl (Nat.le_of_ble_eq_true rfl) dX4_along_21 ⟨Nat.le_of_ble_eq_true rfl, Nat.le_of_ble_eq_true rfl⟩) (fun r_21 h_21 => ?_)
    refine lv_if_eq (tgt := 37) hx hb dX4_along_24 (by decide) (fun c_24 => ?_) (fun c_24 => ?_)
    · have c_24 : ¬ (inB n 0 64 = true) := bz0 h_21 c_24
      refine lv_ldc2 (v := (-9000000000002)) hx hb C.1.2.2.2.1 (C.1.2.2.2.2 _ wm_505) dX4_along_37 ?_
      exact ro_lret C hr hlk (by simp [xAlong, x_3, c_24, hI_3]) dX4_along_40
    · have c_24 : inB n 0 64 = true := bz1 h_21 c_24
      refine lv_iconst (v := 0) hx hb dX4_along_27 (by decide) ?_
      refine lv_iload hx hb dX4_along_28 (lv_at hl 5 rfl) ?_
      refine lv_iconst (v := 1) hx hb dX4_along_30 (by decide) ?_
      refine ro_goI (ro_S (As := [.int 0, .int ax, .int 1]) (rest := []) C hR st_X4_48 (c_X4_isFrom l D cs _ 0 ax 1) ⟨rfl, rfl, Nat.le_of_ble_eq_true rfl, Nat.le_of_ble_eq_true rfl⟩ rfl hl.1 rfl (Nat.le_of_ble_eq_true rfl) dX4_along_31 ⟨Nat.le_of_ble_eq_true rfl, Nat.le_of_ble_eq_true rfl⟩) (fun r_31 h_31 => ?_)
      refine lv_if_ne (tgt := 41) hx hb dX4_along_34 (by decide) (fun c_34 => ?_) (fun c_34 => ?_)
      · have c_34 : inB ax 0 1 = true := bz1 h_31 c_34
        refine lv_aload hx hb dX4_along_41 (lv_at hl 0 rfl) ?_
        refine gf_X4_139 C hR gp_3 rfl dX4_along_43 ?_
        refine lv_iload hx hb dX4_along_46 (lv_at hl 5 rfl) ?_
        refine ro_goQ (ro_V (As := [.int ax]) (rest := []) C hR st_X4_142 (c_X1_row l D cs _ hp9_3 fx_h3 fy_h3 (E 6 (fp j_3 + p_3)) h1_h3 ax) h1_h3 rfl rfl ⟨rfl, rfl, Nat.le_of_ble_eq_true rfl, Nat.le_of_ble_eq_true rfl⟩ rfl hl.1 rfl (Nat.le_of_ble_eq_true rfl) dX4_along_48 ⟨Nat.le_of_ble_eq_true rfl, Nat.le_of_ble_eq_true rfl⟩) (fun r_48 h_48 => ?_)
        rcases r_48 with _ | b_48
        · cases h_48
        · have h_48 := Option.some.inj h_48
          obtain ⟨gR_48, hg1_48, hg2_48⟩ : ∃ g, M b_48 = some (arC cs 4 g) ∧ g = xRow E (fp j_3 + p_3) ax := by rw [h_48]; unfold xRow; by_cases q : ax = 0; exact ⟨_, by rw [if_pos q]; exact h2_h3, by rw [if_pos q]⟩; exact ⟨_, by rw [if_neg q]; exact h3_h3, by rw [if_neg q]⟩
          refine lv_astore (lv' := [(6, .ref b_48), (5, .ref b_3), (0, .ref Z), (1, .int (nI j_3)), (2, .int (nI p_3)), (3, .int n), (4, .int ax)]) hx hb dX4_along_51 hl (by decide) rfl (fun ls hl => ?_)
          refine lv_iload_n hx hb dX4_along_53 rfl (lv_at hl 5 rfl) ?_
          refine lv_i2l hx hb dX4_along_54 rfl ?_
          refine lv_lstore (lv' := [(7, .long n.toInt64), (6, .ref b_48), (5, .ref b_3), (0, .ref Z), (1, .int (nI j_3)), (2, .int (nI p_3)), (3, .int n), (4, .int ax)]) hx hb dX4_along_55 hl (by decide) rfl (fun ls hl => ?_)
          refine lv_ldc2 (v := 64) hx hb C.1.2.2.2.1 (C.1.2.2.2.2 _ wm_506) dX4_along_57 ?_
          refine lv_lload hx hb dX4_along_60 (lv_at hl 0 rfl) ?_
          refine lv_lsub hx hb dX4_along_62 ?_
          refine lv_lstore (lv' := [(9, .long (64 - n.toInt64)), (7, .long n.toInt64), (6, .ref b_48), (5, .ref b_3), (0, .ref Z), (1, .int (nI j_3)), (2, .int (nI p_3)), (3, .int n), (4, .int ax)]) hx hb dX4_along_63 hl (by decide) rfl (fun ls hl => ?_)
          refine lv_lload hx hb dX4_along_65 (lv_at hl 0 rfl) ?_
          refine lv_lload hx hb dX4_along_67 (lv_at hl 0 rfl) ?_
          refine lv_lmul hx hb dX4_along_69 ?_
          refine lv_lload hx hb dX4_along_70 (lv_at hl 0 rfl) ?_
          refine lv_lmul hx hb dX4_along_72 ?_
          refine lv_aload hx hb dX4_along_73 (lv_at hl 2 rfl) ?_
          refine lv_iconst (v := 0) hx hb dX4_along_75 (by decide) ?_
          refine r_ialdN (k := 0) C hR hg1_48 (by omega) (by decide) rfl dX4_along_76 ?_
          refine lv_i2l hx hb dX4_along_77 rfl ?_
          refine lv_lmul hx hb dX4_along_78 ?_
          refine lv_ldc2 (v := 3) hx hb C.1.2.2.2.1 (C.1.2.2.2.2 _ wm_507) dX4_along_79 ?_
          refine lv_lload hx hb dX4_along_82 (lv_at hl 0 rfl) ?_
          refine lv_lmul hx hb dX4_along_84 ?_
          refine lv_lload hx hb dX4_along_85 (lv_at hl 0 rfl) ?_
          refine lv_lmul hx hb dX4_along_87 ?_
          refine lv_lload hx hb dX4_along_88 (lv_at hl 1 rfl) ?_
          refine lv_lmul hx hb dX4_along_90 ?_
          refine lv_aload hx hb dX4_along_91 (lv_at hl 2 rfl) ?_
          refine lv_iconst (v := 1) hx hb dX4_along_93 (by decide) ?_
          refine r_ialdN (k := 1) C hR hg1_48 (by omega) (by decide) rfl dX4_along_94 ?_
          refine lv_i2l hx hb dX4_along_95 rfl ?_
          refine lv_lmul hx hb dX4_along_96 ?_
          refine lv_ladd hx hb dX4_along_97 ?_
          refine lv_ldc2 (v := 3) hx hb C.1.2.2.2.1 (C.1.2.2.2.2 _ wm_507) dX4_along_98 ?_
          refine lv_lload hx hb dX4_along_101 (lv_at hl 0 rfl) ?_
          refine lv_lmul hx hb dX4_along_103 ?_
          refine lv_lload hx hb dX4_along_104 (lv_at hl 1 rfl) ?_
          refine lv_lmul hx hb dX4_along_106 ?_
          refine lv_lload hx hb dX4_along_107 (lv_at hl 1 rfl) ?_
          refine lv_lmul hx hb dX4_along_109 ?_
          refine lv_aload hx hb dX4_along_110 (lv_at hl 2 rfl) ?_
          refine lv_iconst (v := 2) hx hb dX4_along_112 (by decide) ?_
          refine r_ialdN (k := 2) C hR hg1_48 (by omega) (by decide) rfl dX4_along_113 ?_
          refine lv_i2l hx hb dX4_along_114 rfl ?_
          refine lv_lmul hx hb dX4_along_115 ?_
          refine lv_ladd hx hb dX4_along_116 ?_
          refine lv_lload hx hb dX4_along_117 (lv_at hl 1 rfl) ?_
          refine lv_lload hx hb dX4_along_119 (lv_at hl 1 rfl) ?_
          refine lv_lmul hx hb dX4_along_121 ?_
          refine lv_lload hx hb dX4_along_122 (lv_at hl 1 rfl) ?_
          refine lv_lmul hx hb dX4_along_124 ?_
          refine lv_aload hx hb dX4_along_125 (lv_at hl 2 rfl) ?_
          refine lv_iconst (v := 3) hx hb dX4_along_127 (by decide) ?_
          refine r_ialdN (k := 3) C hR hg1_48 (by omega) (by decide) rfl dX4_along_128 ?_
          refine lv_i2l hx hb dX4_along_129 rfl ?_
          refine lv_lmul hx hb dX4_along_130 ?_
          refine lv_ladd hx hb dX4_along_131 ?_
          exact ro_lret C hr hlk (by rw [xAlong, if_pos x_3, if_pos ⟨c_24, c_34⟩, hI_3, ← hg2_48]; rfl) dX4_along_132
      · have c_34 : ¬ (inB ax 0 1 = true) := bz0 h_31 c_34
        refine lv_ldc2 (v := (-9000000000002)) hx hb C.1.2.2.2.1 (C.1.2.2.2.2 _ wm_505) dX4_along_37 ?_
        exact ro_lret C hr hlk (by simp [xAlong, x_3, c_24, c_34, hI_3]) dX4_along_40

set_option maxHeartbeats 4000000 in
set_option maxRecDepth 100000 in
theorem c_X4_within (l : Launch) (D : va_G) (cs : Nat → ClassId) (M : wM) (Z : Nat) (lab ad : Nat → Nat) (w : Nat → Int32) (E : Nat → Nat → Nat → Int32) (J : Nat → Nat → Nat) (nn nb nc np : Nat) (NA BA CA PA : Nat → Option Nat) (hC : CSx cs lab M Z ad w E J nn nb nc np NA BA CA PA) (hnc : w 10 = nI nc) (hc40 : nc ≤ 40) (fp : Nat → Nat) (hfp : ∀ c, c < nc → E 4 c 5 = nI (fp c) ∧ fp c + pcN E J c ≤ np) (hp80 : np ≤ 80) (p1 p2 p3 p4 : Int32) : Met l yX4_within (mw yX4_within cX4_within 7 (some .int)) { frames := 3, cells := 0, slots := 0, locals := 65 } (roP D cs M [.ref Z, .int p1, .int p2, .int p3, .int p4]) (vp_Si (fun r => r = xWithin w E J fp p1 p2 p3 p4)) 0 0 noA := by
  refine ro_met rfl (Nat.le_of_ble_eq_true rfl) ?_
  intro p e s m below meth c ls C hR hr hlk hl
  have C : kx D cs p m c cX4_within 7 s _ RX4 := C
  have hx := C.1.1
  have hb := C.1.2.1
  have hl : lv_has ls 7 [(0, .ref Z), (1, .int p1), (2, .int p2), (3, .int p3), (4, .int p4)] := hl
  refine lv_aload_n hx hb dX4_within_0 rfl (lv_at hl 0 rfl) ?_
  refine lv_iload_n hx hb dX4_within_1 rfl (lv_at hl 1 rfl) ?_
  refine lv_iload_n hx hb dX4_within_2 rfl (lv_at hl 2 rfl) ?_
  refine ro_goQ (ro_V (As := [.int p1, .int p2]) (rest := []) C hR st_X4_119 (c_X4_findPart l D cs _ Z lab ad w E J nn nb nc np NA BA CA PA hC hnc (by omega) fp hfp (by omega) p1 p2) (CSx.z hC) rfl rfl ⟨rfl, rfl, Nat.le_of_ble_eq_true rfl, Nat.le_of_ble_eq_true rfl⟩ rfl hl.1 rfl (Nat.le_of_ble_eq_true rfl) dX4_within_3 ⟨Nat.le_of_ble_eq_true rfl, Nat.le_of_ble_eq_true rfl⟩) (fun r_3 h_3 => ?_)
  rcases r_3 with _ | b_3
  · have x_3 : xPart w E J p1 p2 = false := h_3.elim (fun q => q.2) (fun ⟨c, p, _, _, q1, q2, q3, _⟩ => absurd q3 (fpQ_some hC hfp q1 q2))
    refine lv_astoreN (lv' := [(5, .null), (0, .ref Z), (1, .int p1), (2, .int p2), (3, .int p3), (4, .int p4)]) hx hb dX4_within_6 hl (by decide) rfl (fun ls hl => ?_)
    refine lv_aload_n hx hb dX4_within_8 rfl (lv_at hl 1 rfl) ?_
    refine lv_iload_n hx hb dX4_within_9 rfl (lv_at hl 4 rfl) ?_
    refine lv_iload hx hb dX4_within_10 (lv_at hl 5 rfl) ?_
    refine ro_goQ (ro_V (As := [.int p3, .int p4]) (rest := []) C hR st_X4_119 (c_X4_findPart l D cs _ Z lab ad w E J nn nb nc np NA BA CA PA hC hnc (by omega) fp hfp (by omega) p3 p4) (CSx.z hC) rfl rfl ⟨rfl, rfl, Nat.le_of_ble_eq_true rfl, Nat.le_of_ble_eq_true rfl⟩ rfl hl.1 rfl (Nat.le_of_ble_eq_true rfl) dX4_within_12 ⟨Nat.le_of_ble_eq_true rfl, Nat.le_of_ble_eq_true rfl⟩) (fun r_12 h_12 => ?_)
    rcases r_12 with _ | b_12
    · have x_12 : xPart w E J p3 p4 = false := h_12.elim (fun q => q.2) (fun ⟨c, p, _, _, q1, q2, q3, _⟩ => absurd q3 (fpQ_some hC hfp q1 q2))
      refine lv_astoreN (lv' := [(6, .null), (5, .null), (0, .ref Z), (1, .int p1), (2, .int p2), (3, .int p3), (4, .int p4)]) hx hb dX4_within_15 hl (by decide) rfl (fun ls hl => ?_)
      refine lv_aloadN hx hb dX4_within_17 (lv_at hl 1 rfl) ?_
      refine lv_ifnullN (tgt := 27) hx hb dX4_within_19 (by decide) ?_
      refine lv_sipush (v := (-9001)) hx hb dX4_within_27 (by decide) ?_
      exact ro_iret C hr hlk (by simp [xWithin, x_3, x_12]) dX4_within_30
    · obtain ⟨j_12, p_12, rfl, rfl, hj_12, hp_12, hr_12, x_12⟩ : ∃ c p, p3 = nI c ∧ p4 = nI p ∧ c < nc ∧ p < pcN E J c ∧ some b_12 = PA (fp c + p) ∧ xPart w E J p3 p4 = true := h_12.elim (fun q => by cases q.1) id
      have hf_12 := (hfp j_12 hj_12).2
      have hq_12 := pcN_le E J j_12
      have hI_12 := xI_eq fp (j := j_12) (p := p_12) (by omega) (by omega)
      obtain ⟨d_12, cp_12, hp9_12, b1_12, b2_12, ga_12, gp_12, gl_12, gc_12, gh_12⟩ := CSx.part hC (fp j_12 + p_12) (by omega)
      have e_12 : b_12 = d_12 := Option.some.inj (hr_12.trans ga_12)
      subst e_12
      obtain ⟨fx_h12, fy_h12, h1_h12, h2_h12, h3_h12, h4_h12, h5_h12, h6_h12⟩ := gh_12
      refine lv_astore (lv' := [(6, .ref b_12), (5, .null), (0, .ref Z), (1, .int p1), (2, .int p2), (3, .int (nI j_12)), (4, .int (nI p_12))]) hx hb dX4_within_15 hl (by decide) rfl (fun ls hl => ?_)
      refine lv_aloadN hx hb dX4_within_17 (lv_at hl 1 rfl) ?_
      refine lv_ifnullN (tgt := 27) hx hb dX4_within_19 (by decide) ?_
      refine lv_sipush (v := (-9001)) hx hb dX4_within_27 (by decide) ?_
      exact ro_iret C hr hlk (by simp [xWithin, x_3, x_12, hI_12]) dX4_within_30
  · obtain ⟨j_3, p_3, rfl, rfl, hj_3, hp_3, hr_3, x_3⟩ : ∃ c p, p1 = nI c ∧ p2 = nI p ∧ c < nc ∧ p < pcN E J c ∧ some b_3 = PA (fp c + p) ∧ xPart w E J p1 p2 = true := h_3.elim (fun q => by cases q.1) id
    have hf_3 := (hfp j_3 hj_3).2
    have hq_3 := pcN_le E J j_3
    have hI_3 := xI_eq fp (j := j_3) (p := p_3) (by omega) (by omega)
    obtain ⟨d_3, cp_3, hp9_3, b1_3, b2_3, ga_3, gp_3, gl_3, gc_3, gh_3⟩ := CSx.part hC (fp j_3 + p_3) (by omega)
    have e_3 : b_3 = d_3 := Option.some.inj (hr_3.trans ga_3)
    subst e_3
    obtain ⟨fx_h3, fy_h3, h1_h3, h2_h3, h3_h3, h4_h3, h5_h3, h6_h3⟩ := gh_3
    refine lv_astore (lv' := [(5, .ref b_3), (0, .ref Z), (1, .int (nI j_3)), (2, .int (nI p_3)), (3, .int p3), (4, .int p4)]) hx hb dX4_within_6 hl (by decide) rfl (fun ls hl => ?_)
    refine lv_aload_n hx hb dX4_within_8 rfl (lv_at hl 1 rfl) ?_
    refine lv_iload_n hx hb dX4_within_9 rfl (lv_at hl 4 rfl) ?_
    refine lv_iload hx hb dX4_within_10 (lv_at hl 5 rfl) ?_
    refine ro_goQ (ro_V (As := [.int p3, .int p4]) (rest := []) C hR st_X4_119 (c_X4_findPart l D cs _ Z lab ad w E J nn nb nc np NA BA CA PA hC hnc (by omega) fp hfp (by omega) p3 p4) (CSx.z hC) rfl rfl ⟨rfl, rfl, Nat.le_of_ble_eq_true rfl, Nat.le_of_ble_eq_true rfl⟩ rfl hl.1 rfl (Nat.le_of_ble_eq_true rfl) dX4_within_12 ⟨Nat.le_of_ble_eq_true rfl, Nat.le_of_ble_eq_true rfl⟩) (fun r_12 h_12 => ?_)
    rcases r_12 with _ | b_12
    · have x_12 : xPart w E J p3 p4 = false := h_12.elim (fun q => q.2) (fun ⟨c, p, _, _, q1, q2, q3, _⟩ => absurd q3 (fpQ_some hC hfp q1 q2))
      refine lv_astoreN (lv' := [(6, .null), (5, .ref b_3), (0, .ref Z), (1, .int (nI j_3)), (2, .int (nI p_3)), (3, .int p3), (4, .int p4)]) hx hb dX4_within_15 hl (by decide) rfl (fun ls hl => ?_)
      refine lv_aload hx hb dX4_within_17 (lv_at hl 1 rfl) ?_
      refine lv_ifnull hx hb dX4_within_19 ?_
      refine lv_aloadN hx hb dX4_within_22 (lv_at hl 0 rfl) ?_
      refine lv_ifnonnullN hx hb dX4_within_24 ?_
      refine lv_sipush (v := (-9001)) hx hb dX4_within_27 (by decide) ?_
      exact ro_iret C hr hlk (by simp [xWithin, x_3, x_12, hI_3]) dX4_within_30
    · obtain ⟨j_12, p_12, rfl, rfl, hj_12, hp_12, hr_12, x_12⟩ : ∃ c p, p3 = nI c ∧ p4 = nI p ∧ c < nc ∧ p < pcN E J c ∧ some b_12 = PA (fp c + p) ∧ xPart w E J p3 p4 = true := h_12.elim (fun q => by cases q.1) id
      have hf_12 := (hfp j_12 hj_12).2
      have hq_12 := pcN_le E J j_12
      have hI_12 := xI_eq fp (j := j_12) (p := p_12) (by omega) (by omega)
      obtain ⟨d_12, cp_12, hp9_12, b1_12, b2_12, ga_12, gp_12, gl_12, gc_12, gh_12⟩ := CSx.part hC (fp j_12 + p_12) (by omega)
      have e_12 : b_12 = d_12 := Option.some.inj (hr_12.trans ga_12)
      subst e_12
      obtain ⟨fx_h12, fy_h12, h1_h12, h2_h12, h3_h12, h4_h12, h5_h12, h6_h12⟩ := gh_12
      refine lv_astore (lv' := [(6, .ref b_12), (5, .ref b_3), (0, .ref Z), (1, .int (nI j_3)), (2, .int (nI p_3)), (3, .int (nI j_12)), (4, .int (nI p_12))]) hx hb dX4_within_15 hl (by decide) rfl (fun ls hl => ?_)
      refine lv_aload hx hb dX4_within_17 (lv_at hl 1 rfl) ?_
      refine lv_ifnull hx hb dX4_within_19 ?_
      refine lv_aload hx hb dX4_within_22 (lv_at hl 0 rfl) ?_
      refine lv_ifnonnull (tgt := 31) hx hb dX4_within_24 (by decide) ?_
      refine lv_aload hx hb dX4_within_31 (lv_at hl 1 rfl) ?_
      refine lv_aload hx hb dX4_within_33 (lv_at hl 0 rfl) ?_
      refine ro_goI (ro_V (As := [.ref b_12]) (rest := []) C hR st_X4_165 (c_X3_liesWithin l D cs _ b_3 cp_3 hp9_3 (E 5 (fp j_3 + p_3)) (E 4 (J 3 (fp j_3 + p_3))) b1_3 b2_3 gp_3 gc_3 b_12 cp_12 hp9_12 (E 5 (fp j_12 + p_12)) (E 4 (J 3 (fp j_12 + p_12))) b1_12 b2_12 gp_12 gc_12) gp_3 rfl rfl ⟨rfl, rfl, Nat.le_of_ble_eq_true rfl, Nat.le_of_ble_eq_true rfl⟩ rfl hl.1 rfl (Nat.le_of_ble_eq_true rfl) dX4_within_35 ⟨Nat.le_of_ble_eq_true rfl, Nat.le_of_ble_eq_true rfl⟩) (fun r_35 h_35 => ?_)
      refine lv_if_eq (tgt := 45) hx hb dX4_within_38 (by decide) (fun c_38 => ?_) (fun c_38 => ?_)
      · have c_38 : ¬ (pWin (E 5 (fp j_3 + p_3)) (E 4 (J 3 (fp j_3 + p_3))) (E 5 (fp j_12 + p_12)) (E 4 (J 3 (fp j_12 + p_12))) = true) := bz0 h_35 c_38
        refine lv_iconst (v := 0) hx hb dX4_within_45 (by decide) ?_
        exact ro_iret C hr hlk (by simp [xWithin, x_3, x_12, c_38, hI_3, hI_12]) dX4_within_46
      · have c_38 : pWin (E 5 (fp j_3 + p_3)) (E 4 (J 3 (fp j_3 + p_3))) (E 5 (fp j_12 + p_12)) (E 4 (J 3 (fp j_12 + p_12))) = true := bz1 h_35 c_38
        refine lv_iconst (v := 1) hx hb dX4_within_41 (by decide) ?_
        refine lv_goto (tgt := 46) hx hb dX4_within_42 (by decide) ?_
        exact ro_iret C hr hlk (by simp [xWithin, x_3, x_12, c_38, hI_3, hI_12]) dX4_within_46

set_option maxHeartbeats 4000000 in
set_option maxRecDepth 100000 in
theorem c_X4_count (l : Launch) (D : va_G) (cs : Nat → ClassId) (M : wM) (Z : Nat) (lab ad : Nat → Nat) (w : Nat → Int32) (E : Nat → Nat → Nat → Int32) (J : Nat → Nat → Nat) (nn nb nc np : Nat) (NA BA CA PA : Nat → Option Nat) (hC : CSx cs lab M Z ad w E J nn nb nc np NA BA CA PA) (hnp : w 11 = nI np) (hp80 : np ≤ 80) (v : Int32) : Met l yX4_count (mw yX4_count cX4_count 2 (some .int)) { frames := 1, cells := 0, slots := 0, locals := 22 } (roP D cs M [.ref Z, .int v]) (vp_Si (fun r => r = xCount w E np v)) 0 0 noA := by
  refine ro_met rfl (Nat.le_of_ble_eq_true rfl) ?_
  intro p e s m below meth c ls C hR hr hlk hl
  have C : kx D cs p m c cX4_count 2 s _ RX4 := C
  have hx := C.1.1
  have hb := C.1.2.1
  have hl : lv_has ls 2 [(0, .ref Z), (1, .int v)] := hl
  refine lv_iload_n hx hb dX4_count_0 rfl (lv_at hl 1 rfl) ?_
  rcases sw_cases v 5 with h_1 | ⟨k_1, hk_1, e_1⟩
  · refine sw_out (tgt := 70) C h_1 dX4_count_1 (by decide) ?_
    refine lv_sipush (v := (-9002)) hx hb dX4_count_70 (by decide) ?_
    exact ro_iret C hr hlk (by rw [xCount]; rw [if_neg (by omega), if_neg (by omega), if_neg (by omega), if_neg (by omega), if_neg (by omega), if_neg (by omega)]) dX4_count_73
  · match k_1, hk_1, e_1 with
    | 0, _, e_1 =>
      refine sw_in (tgt := 40) C 0 e_1 (by decide) (by decide) dX4_count_1 rfl (by decide) ?_
      have hsw : v.toInt = 0 := by rw [e_1]; rfl
      refine lv_aload_n hx hb dX4_count_40 rfl (lv_at hl 0 rfl) ?_
      refine gf_X4_52 C hR (CSx.z hC) rfl dX4_count_41 ?_
      exact ro_iret C hr hlk (by simp [xCount, hsw]) dX4_count_44
    | 1, _, e_1 =>
      refine sw_in (tgt := 45) C 1 e_1 (by decide) (by decide) dX4_count_1 rfl (by decide) ?_
      have hsw : v.toInt = 1 := by rw [e_1]; rfl
      refine lv_aload_n hx hb dX4_count_45 rfl (lv_at hl 0 rfl) ?_
      refine gf_X4_60 C hR (CSx.z hC) rfl dX4_count_46 ?_
      exact ro_iret C hr hlk (by simp [xCount, hsw]) dX4_count_49
    | 2, _, e_1 =>
      refine sw_in (tgt := 50) C 2 e_1 (by decide) (by decide) dX4_count_1 rfl (by decide) ?_
      have hsw : v.toInt = 2 := by rw [e_1]; rfl
      refine lv_aload_n hx hb dX4_count_50 rfl (lv_at hl 0 rfl) ?_
      refine gf_X4_69 C hR (CSx.z hC) rfl dX4_count_51 ?_
      exact ro_iret C hr hlk (by simp [xCount, hsw]) dX4_count_54
    | 3, _, e_1 =>
      refine sw_in (tgt := 55) C 3 e_1 (by decide) (by decide) dX4_count_1 rfl (by decide) ?_
      have hsw : v.toInt = 3 := by rw [e_1]; rfl
      refine lv_aload_n hx hb dX4_count_55 rfl (lv_at hl 0 rfl) ?_
      refine gf_X4_72 C hR (CSx.z hC) rfl dX4_count_56 ?_
      exact ro_iret C hr hlk (by simp [xCount, hsw]) dX4_count_59
    | 4, _, e_1 =>
      refine sw_in (tgt := 60) C 4 e_1 (by decide) (by decide) dX4_count_1 rfl (by decide) ?_
      have hsw : v.toInt = 4 := by rw [e_1]; rfl
      refine lv_aload_n hx hb dX4_count_60 rfl (lv_at hl 0 rfl) ?_
      refine gf_X4_169 C hR (CSx.z hC) rfl dX4_count_61 ?_
      exact ro_iret C hr hlk (by simp [xCount, hsw]) dX4_count_64
    | 5, _, e_1 =>
      refine sw_in (tgt := 65) C 5 e_1 (by decide) (by decide) dX4_count_1 rfl (by decide) ?_
      have hsw : v.toInt = 5 := by rw [e_1]; rfl
      refine lv_aload_n hx hb dX4_count_65 rfl (lv_at hl 0 rfl) ?_
      refine ro_goI (ro_V (As := []) (rest := []) C hR st_X4_172 (c_X4_collidingParts l D cs _ Z lab ad w E J nn nb nc np NA BA CA PA hC hnp (by omega)) (CSx.z hC) rfl rfl ⟨rfl, rfl, Nat.le_of_ble_eq_true rfl, Nat.le_of_ble_eq_true rfl⟩ rfl hl.1 rfl (Nat.le_of_ble_eq_true rfl) dX4_count_66 ⟨Nat.le_of_ble_eq_true rfl, Nat.le_of_ble_eq_true rfl⟩) (fun r_66 h_66 => ?_)
      exact ro_iret C hr hlk (by simp [xCount, hsw, h_66]) dX4_count_69
    | k + 6, hk_1, _ => exact absurd hk_1 (by omega)


def nqc (c0 : Nat → Int32) : Nat := if c0 3 = 0 then 24 else 8
theorem nqc_eq (c0 : Nat → Int32) : pCc c0 = nI (nqc c0) := by unfold pCc nqc; split <;> rfl
theorem nqc_le (c0 : Nat → Int32) : 8 ≤ nqc c0 ∧ nqc c0 ≤ 24 := by unfold nqc; split <;> omega
def xCh (E : Nat → Nat → Nat → Int32) (J : Nat → Nat → Nat) (nb np i : Nat) : Nat → Int32
  | 0 => -1
  | k + 1 => if (xCh E J nb np i k = -1 ∨ ¬ pBad (xCh E J nb np i k) ≤ pBad (nI k)) ∧ cnt (xBq E J i (nI k)) nb = 0 ∧ cnt (xHq E J i (nI k)) np = 0 then nI k else xCh E J nb np i k
def xBest (E : Nat → Nat → Nat → Int32) (J : Nat → Nat → Nat) (nb np i : Nat) : Int32 := xCh E J nb np i (nqc (E 4 (J 3 i)))
def xChos (E : Nat → Nat → Nat → Int32) (J : Nat → Nat → Nat) (nb np i : Nat) : Int32 := if xBest E J nb np i = -1 then nI (nqc (E 4 (J 3 i))) - 1 else xBest E J nb np i
/-- what choosing part i does to the state -/
def chR (E E2 : Nat → Nat → Nat → Int32) (J : Nat → Nat → Nat) (nb np i : Nat) : Prop := (∀ k, k ≠ 5 → k ≠ 6 → k ≠ 7 → k ≠ 8 → k ≠ 9 → E2 k = E k) ∧ (∀ j, j ≠ i → E2 5 j = E 5 j ∧ E2 6 j = E 6 j ∧ E2 7 j = E 7 j ∧ E2 8 j = E 8 j) ∧ E2 5 i = va_up (va_up (E 5 i) 9 (bI (xBest E J nb np i = -1))) 8 (xChos E J nb np i) ∧ E2 6 i = pF (E 5 i) (E 4 (J 3 i)) (xChos E J nb np i) ∧ ∀ t, t < 4 → E2 7 i t = pX (E 5 i) t ∧ E2 8 i t = pY (E 5 i) (E 4 (J 3 i)) (xChos E J nb np i) t
theorem pX_q {q0 q1 : Nat → Int32} (h2 : q0 2 = q1 2) (h4 : q0 4 = q1 4) : pX q0 = pX q1 := by unfold pX dX; rw [h2, h4]
theorem pY_q {q0 q1 c0 : Nat → Int32} {k : Int32} (h3 : q0 3 = q1 3) (h5 : q0 5 = q1 5) (h6 : q0 6 = q1 6) : pY q0 c0 k = pY q1 c0 k := by unfold pY dY dY0 dY3 dRise; rw [h3, h5, h6]
theorem pF_q {q0 q1 c0 : Nat → Int32} {k : Int32} (h1 : q0 1 = q1 1) (h2 : q0 2 = q1 2) (h3 : q0 3 = q1 3) (h4 : q0 4 = q1 4) (h5 : q0 5 = q1 5) (h6 : q0 6 = q1 6) : pF q0 c0 k = pF q1 c0 k := by unfold pF; rw [h1, pX_q h2 h4, pY_q h3 h5 h6]
/-- the ends of choose, put together -/
theorem ch_end {E E1 E3 E4 E5 : Nat → Nat → Nat → Int32} {J : Nat → Nat → Nat} {nb np i : Nat} {b z z2 : Int32} {gx gy : Nat → Int32} (hE : xEq E E1) (hb : b = xBest E J nb np i) (hz : z = bI (b = -1)) (hz2 : z2 = if b = -1 then nI (nqc (E 4 (J 3 i))) - 1 else b) (e3 : E3 = va_up E1 5 (va_up (E1 5) i (va_up (E1 5 i) 9 z))) (e4 : E4 = va_up E3 5 (va_up (E3 5) i (va_up (E3 5 i) 8 z2))) (e5 : E5 = va_up (va_up (va_up E4 6 (va_up (E4 6) i (frF (E4 5 i 1) (dX (E4 5 i) gx) (dY (E4 5 i) (E4 4 (J 3 i)) (E4 5 i 8) gy) 3))) 7 (va_up (E4 7) i (dX (E4 5 i) gx))) 8 (va_up (E4 8) i (dY (E4 5 i) (E4 4 (J 3 i)) (E4 5 i 8) gy))) : chR E E5 J nb np i := by
  have h35 : E3 5 = va_up (E1 5) i (va_up (E1 5 i) 9 z) := by rw [e3, va_up_self]
  have h45 : E4 5 = va_up (E1 5) i (va_up (va_up (E1 5 i) 9 z) 8 z2) := by rw [e4, va_up_self, h35, va_up_self, bx_uu]
  have h4 : ∀ k, k ≠ 5 → E4 k = E1 k := fun k hk => by rw [e4, va_up_ne _ _ hk, e3, va_up_ne _ _ hk]
  have h5 : ∀ k, k ≠ 6 → k ≠ 7 → k ≠ 8 → E5 k = E4 k := fun k a c d => by rw [e5, va_up_ne _ _ d, va_up_ne _ _ c, va_up_ne _ _ a]
  have q5 : E4 5 i = va_up (va_up (E 5 i) 9 z) 8 z2 := by rw [h45, va_up_self, hE 5 (by decide)]
  have c4 : E4 4 (J 3 i) = E 4 (J 3 i) := by rw [h4 4 (by decide), hE 4 (by decide)]
  have ez2 : z2 = xChos E J nb np i := by rw [hz2, hb]; rfl
  have e8 : E4 5 i 8 = xChos E J nb np i := by rw [q5, va_up_self, ez2]
  have ne : ∀ k, k ≠ 8 → k ≠ 9 → E4 5 i k = E 5 i k := fun k a c => by rw [q5, va_up_ne _ _ a, va_up_ne _ _ c]
  have h6 : E5 6 = va_up (E4 6) i (frF (E4 5 i 1) (dX (E4 5 i) gx) (dY (E4 5 i) (E4 4 (J 3 i)) (E4 5 i 8) gy) 3) := by rw [e5, va_up_ne _ _ (by decide), va_up_ne _ _ (by decide), va_up_self]
  have h7 : E5 7 = va_up (E4 7) i (dX (E4 5 i) gx) := by rw [e5, va_up_ne _ _ (by decide), va_up_self]
  have h8 : E5 8 = va_up (E4 8) i (dY (E4 5 i) (E4 4 (J 3 i)) (E4 5 i 8) gy) := by rw [e5, va_up_self]
  refine ⟨fun k a c d e f => ?_, fun j hj => ⟨?_, ?_, ?_, ?_⟩, ?_, ?_, fun t ht => ⟨?_, ?_⟩⟩
  · rw [h5 k c d e, h4 k a, hE k f]
  · rw [h5 5 (by decide) (by decide) (by decide), h45, va_up_ne _ _ hj, hE 5 (by decide)]
  · rw [h6, va_up_ne _ _ hj, h4 6 (by decide), hE 6 (by decide)]
  · rw [h7, va_up_ne _ _ hj, h4 7 (by decide), hE 7 (by decide)]
  · rw [h8, va_up_ne _ _ hj, h4 8 (by decide), hE 8 (by decide)]
  · rw [h5 5 (by decide) (by decide) (by decide), q5, hz, ez2]
    simp only [hb]
  · rw [h6, va_up_self, frF_p, c4, e8]
    exact pF_q (ne 1 (by decide) (by decide)) (ne 2 (by decide) (by decide)) (ne 3 (by decide) (by decide)) (ne 4 (by decide) (by decide)) (ne 5 (by decide) (by decide)) (ne 6 (by decide) (by decide))
  · rw [h7, va_up_self, dX_p _ _ ht, pX_q (ne 2 (by decide) (by decide)) (ne 4 (by decide) (by decide))]
  · rw [h8, va_up_self, dY_p _ _ _ _ ht, c4, e8, pY_q (ne 3 (by decide) (by decide)) (ne 5 (by decide) (by decide)) (ne 6 (by decide) (by decide))]
theorem parC_h {M : wM} {a a2 c c2 g g2 : Nat} {q q2 : Nat → Int32} (h : a = a2) (h1 : M a = some (parC q c g)) (h2 : M a2 = some (parC q2 c2 g2)) : g2 = g := by
  subst h
  have e := Option.some.inj (h2.symm.trans h1)
  simp [parC] at e
  exact e.2.2.2.2.2.2.2.1
set_option maxHeartbeats 4000000 in
set_option maxRecDepth 100000 in
theorem c_X4_choose (l : Launch) (D : va_G) (cs : Nat → ClassId) (A : Nat → Prop) (M : wM) (Z : Nat) (lab ad : Nat → Nat) (w : Nat → Int32) (E : Nat → Nat → Nat → Int32) (J : Nat → Nat → Nat) (nn nb nc np : Nat) (NA BA CA PA : Nat → Option Nat) (hC : CSx cs lab M Z ad w E J nn nb nc np NA BA CA PA) (nm nw : Nat) (hnm : w 8 = nI nm) (hnw : w 9 = nI nw) (hb9 : nb = nm + nw) (hb52 : nb ≤ 52) (hnp : w 11 = nI np) (hp80 : np ≤ 80) (i : Nat) (hi : i < np) (a : Nat) (hPAi : PA i = some a) : Met l yX4_choose (mw yX4_choose cX4_choose 4 none) { frames := 4, cells := 0, slots := 0, locals := 98 } (wrP D cs A M [.ref Z, .ref a]) (va_Qv (fun M' => ∃ E', CSx cs lab M' Z ad w E' J nn nb nc np NA BA CA PA ∧ chR E E' J nb np i) (wrB D A) A) 0 0 A := by
  refine wr_met rfl (Nat.le_of_ble_eq_true rfl) ?_
  intro p e s m below meth c ls C hW hr hlk hini hl
  have C : kx D cs p m c cX4_choose 4 s _ RX4 := C
  have hx := C.1.1
  have hb := C.1.2.1
  have hl : lv_has ls 4 [(0, .ref Z), (1, .ref a)] := hl
  obtain ⟨d_s, cp_s, hp9_s, b1_s, b2_s, ga_s, gp_s, gl_s, gc_s, gh_s⟩ := CSx.part hC i (by omega)
  have e_s : a = d_s := Option.some.inj (hPAi.symm.trans ga_s)
  subst e_s
  obtain ⟨fx_hs, fy_hs, h1_hs, h2_hs, h3_hs, h4_hs, h5_hs, h6_hs⟩ := gh_s
  have hnq0 := nqc_le (E 4 (J 3 i))
  refine lv_iconst (v := (-1)) hx hb dX4_choose_0 (by decide) ?_
  refine lv_istore_n (lv' := [(2, .int (-1)), (0, .ref Z), (1, .ref a)]) hx hb dX4_choose_1 rfl hl (by decide) rfl (fun ls hl => ?_)
  refine lv_iconst (v := 0) hx hb dX4_choose_2 (by decide) ?_
  refine lv_istore_n (lv' := [(3, .int 0), (2, .int (-1)), (0, .ref Z), (1, .ref a)]) hx hb dX4_choose_3 rfl hl (by decide) rfl (fun ls hl => ?_)
  refine W.loopW (σ := Nat × Int32 × (Nat → Nat → Nat → Int32) × Heap × List Loc × wM × Array Slot) (fun ⟨k, b, E1, H, locs, M, ls⟩ => F0 m 4 ls []) (fun ⟨k, b, E1, H, locs, M, ls⟩ => H) (fun ⟨k, b, E1, H, locs, M, ls⟩ => locs) (fun ⟨k, b, E1, H, locs, M, ls⟩ => (k ≤ nqc (E 4 (J 3 i))) ∧ (xEq E E1) ∧ (b = xCh E J nb np i k) ∧ (CSx cs lab M Z ad w E1 J nn nb nc np NA BA CA PA) ∧ wd D A M s.heap H locs ∧ lv_has ls 4 [(3, .int (nI k)), (2, .int b), (0, .ref Z), (1, .ref a)]) (fun ⟨k, b, E1, H, locs, M, ls⟩ => nqc (E 4 (J 3 i)) - k) ?_ (0, (-1), E, _, _, _, _) ⟨by omega, fun _ _ => rfl, rfl, hC, hW, lv_sub hl [0, 1, 2, 3] rfl⟩ rfl rfl rfl
  intro ⟨k, b, E1, H, locs, M, ls⟩ ⟨hk, hE, hbe, hC, hW, hl⟩ ih_4
  show W _ _ _ _ _ _ _ _ _ _ H locs _ _ _ (F0 m 4 ls [])
  have hl : lv_has ls 4 [(3, .int (nI k)), (2, .int b), (0, .ref Z), (1, .ref a)] := hl
  obtain ⟨d_l, cp_l, hp9_l, b1_l, b2_l, ga_l, gp_l, gl_l, gc_l, gh_l⟩ := CSx.part hC i (by omega)
  have e_l : a = d_l := Option.some.inj (hPAi.symm.trans ga_l)
  subst e_l
  obtain ⟨fx_hl, fy_hl, h1_hl, h2_hl, h3_hl, h4_hl, h5_hl, h6_hl⟩ := gh_l
  obtain ⟨fx_tl, fy_tl, h1_tl, h2_tl, h3_tl, h4_tl, h5_tl, h6_tl⟩ := CSx.tr hC
  have hnq := nqc_le (E 4 (J 3 i))
  have hkc : nqc (E1 4 (J 3 i)) = nqc (E 4 (J 3 i)) := by rw [hE 4 (by decide)]
  refine lv_iload_n hx hb dX4_choose_4 rfl (lv_at hl 0 rfl) ?_
  refine lv_aload_n hx hb dX4_choose_5 rfl (lv_at hl 3 rfl) ?_
  refine ro_goI (ro_V (As := []) (rest := [.int (nI k)]) C hW.rd st_X4_136 (c_X3_candidateCount l D cs _ a cp_l hp9_l (E1 5 i) (E1 4 (J 3 i)) b1_l b2_l gp_l gc_l) gp_l rfl rfl ⟨rfl, rfl, Nat.le_of_ble_eq_true rfl, Nat.le_of_ble_eq_true rfl⟩ rfl hl.1 rfl (Nat.le_of_ble_eq_true rfl) dX4_choose_6 ⟨Nat.le_of_ble_eq_true rfl, Nat.le_of_ble_eq_true rfl⟩) (fun r_6 h_6 => ?_)
  refine top_eq (y := nI (nqc (E1 4 (J 3 i)))) (Eq.trans h_6 (nqc_eq _)) ?_
  have hn_r_6 := nqc_le (E1 4 (J 3 i))
  have hk_r_6 : nqc (E1 4 (J 3 i)) = nqc (E 4 (J 3 i)) := by rw [hE 4 (by decide)]
  refine lv_icmp_ge (tgt := 64) hx hb dX4_choose_9 (by decide) (fun c_9 => ?_) (fun c_9 => ?_)
  · have c_9 := cle_t (a := (nqc (E1 4 (J 3 i)))) (b := k) c_9 (by omega) (by omega)
    refine lv_aload_n hx hb dX4_choose_64 rfl (lv_at hl 3 rfl) ?_
    refine W.cut (fun z => z = bI (b = -1)) (fun z => F0 m 75 ls (.int z :: [.ref a])) (fun z_75 hz_75 => ?_) (fun J_75 => ?_)
    · refine pf_X4_130 (fs2 := [.ref cp_l, .int ((va_up (E1 5 i) 9 z_75) 1), .int ((va_up (E1 5 i) 9 z_75) 2), .int ((va_up (E1 5 i) 9 z_75) 3), .int ((va_up (E1 5 i) 9 z_75) 4), .int ((va_up (E1 5 i) 9 z_75) 5), .int ((va_up (E1 5 i) 9 z_75) 6), .ref hp9_l, .int ((va_up (E1 5 i) 9 z_75) 8), .int ((va_up (E1 5 i) 9 z_75) 9)]) C hW gp_l (bI_01 hz_75) (Nat.le_of_ble_eq_true rfl) rfl dX4_choose_75 (fun H locs hW => ?_)
      obtain ⟨M, E_1, eE_1, hC, hW⟩ : ∃ (M : wM) (E9 : Nat → Nat → Nat → Int32), E9 = va_up E1 5 (va_up (E1 5) i (va_up (E1 5 i) 9 z_75)) ∧ CSx cs lab M Z ad w E9 J nn nb nc np NA BA CA PA ∧ wd D A M s.heap H locs := ⟨_, _, rfl, CSx.setP hC (by omega) hPAi gp_l gl_l _, hW⟩
      obtain ⟨d_p1, cp_p1, hp9_p1, b1_p1, b2_p1, ga_p1, gp_p1, gl_p1, gc_p1, gh_p1⟩ := CSx.part hC i (by omega)
      have e_p1 : a = d_p1 := Option.some.inj (hPAi.symm.trans ga_p1)
      subst e_p1
      obtain ⟨fx_hp1, fy_hp1, h1_hp1, h2_hp1, h3_hp1, h4_hp1, h5_hp1, h6_hp1⟩ := gh_p1
      have hcol : E_1 5 i 9 = bI (b = -1) := by rw [eE_1, va_up_self, va_up_self, va_up_self]; exact hz_75
      refine lv_aload_n hx hb dX4_choose_78 rfl (lv_at hl 3 rfl) ?_
      refine W.cut (fun z => z = if b = -1 then nI (nqc (E 4 (J 3 i))) - 1 else b) (fun z => F0 m 96 ls (.int z :: [.ref a])) (fun z_96 hz_96 => ?_) (fun J_96 => ?_)
      · refine pf_X4_89 (fs2 := [.ref cp_p1, .int ((va_up (E_1 5 i) 8 z_96) 1), .int ((va_up (E_1 5 i) 8 z_96) 2), .int ((va_up (E_1 5 i) 8 z_96) 3), .int ((va_up (E_1 5 i) 8 z_96) 4), .int ((va_up (E_1 5 i) 8 z_96) 5), .int ((va_up (E_1 5 i) 8 z_96) 6), .ref hp9_p1, .int ((va_up (E_1 5 i) 8 z_96) 8), .int ((va_up (E_1 5 i) 8 z_96) 9)]) C hW gp_p1 (Nat.le_of_ble_eq_true rfl) rfl dX4_choose_96 (fun H locs hW => ?_)
        obtain ⟨M, E_2, eE_2, hC, hW⟩ : ∃ (M : wM) (E9 : Nat → Nat → Nat → Int32), E9 = va_up E_1 5 (va_up (E_1 5) i (va_up (E_1 5 i) 8 z_96)) ∧ CSx cs lab M Z ad w E9 J nn nb nc np NA BA CA PA ∧ wd D A M s.heap H locs := ⟨_, _, rfl, CSx.setP hC (by omega) hPAi gp_p1 gl_p1 _, hW⟩
        obtain ⟨d_p2, cp_p2, hp9_p2, b1_p2, b2_p2, ga_p2, gp_p2, gl_p2, gc_p2, gh_p2⟩ := CSx.part hC i (by omega)
        have e_p2 : a = d_p2 := Option.some.inj (hPAi.symm.trans ga_p2)
        subst e_p2
        obtain ⟨fx_hp2, fy_hp2, h1_hp2, h2_hp2, h3_hp2, h4_hp2, h5_hp2, h6_hp2⟩ := gh_p2
        refine lv_aload_n hx hb dX4_choose_99 rfl (lv_at hl 3 rfl) ?_
        refine lv_aload_n hx hb dX4_choose_100 rfl (lv_at hl 3 rfl) ?_
        refine gf_X4_89 C hW.rd gp_p2 rfl dX4_choose_101 ?_
        refine lv_aload_n hx hb dX4_choose_104 rfl (lv_at hl 3 rfl) ?_
        refine gf_X4_139 C hW.rd gp_p2 rfl dX4_choose_105 ?_
        refine wr_goV hW (wr_V (As := [.int (E_2 5 i 8), .ref hp9_p2]) (rest := []) C hW st_X4_146 (c_X3_draw l D cs A _ a cp_p2 hp9_p2 (E_2 5 i) (E_2 4 (J 3 i)) b1_p2 b2_p2 gp_p2 gc_p2 hp9_p2 fx_hp2 fy_hp2 (E_2 6 i) (E_2 7 i) (E_2 8 i) h1_hp2 h2_hp2 h3_hp2 (lab_ne h5_hp2 h6_hp2) (E_2 5 i 8)) gp_p2 rfl rfl ⟨rfl, rfl, Nat.le_of_ble_eq_true rfl, Nat.le_of_ble_eq_true rfl⟩ rfl hl.1 rfl (Nat.le_of_ble_eq_true rfl) dX4_choose_108 ⟨Nat.le_of_ble_eq_true rfl, Nat.le_of_ble_eq_true rfl⟩) (fun M_108 H locs h_108 hW => ?_)
        rw [h_108] at hW
        obtain ⟨M, E_3, eE_3, hC, hW⟩ : ∃ (M : wM) (E9 : Nat → Nat → Nat → Int32), E9 = va_up (va_up (va_up E_2 6 (va_up (E_2 6) i (frF (E_2 5 i 1) (dX (E_2 5 i) (E_2 7 i)) (dY (E_2 5 i) (E_2 4 (J 3 i)) (E_2 5 i 8) (E_2 8 i)) 3))) 7 (va_up (E_2 7) i (dX (E_2 5 i) (E_2 7 i)))) 8 (va_up (E_2 8) i (dY (E_2 5 i) (E_2 4 (J 3 i)) (E_2 5 i 8) (E_2 8 i))) ∧ CSx cs lab M Z ad w E9 J nn nb nc np NA BA CA PA ∧ wd D A M s.heap H locs := ⟨_, _, rfl, CSx.drawH hC (by omega) h1_hp2 h2_hp2 h3_hp2 h4_hp2 h5_hp2 h6_hp2 _ _ _ (fun a2 c2 g2 k1 k2 => parC_h (Option.some.inj (hPAi.symm.trans k1)) gp_p2 k2), hW⟩
        exact wr_vret C hW hr hlk (⟨_, hC, ch_end hE (by rw [hbe, show k = nqc (E 4 (J 3 i)) by omega]; rfl) hz_75 hz_96 eE_1 eE_2 eE_3⟩) dX4_choose_111
      · refine lv_aload_n hx hb dX4_choose_79 rfl (lv_at hl 3 rfl) ?_
        refine gf_X4_130 C hW.rd gp_p1 rfl dX4_choose_80 ?_
        refine lv_if_eq (tgt := 95) hx hb dX4_choose_83 (by decide) (fun c_83 => ?_) (fun c_83 => ?_)
        · have c_83 : ¬ (b = -1) := bz0 hcol c_83
          refine lv_iload_n hx hb dX4_choose_95 rfl (lv_at hl 1 rfl) ?_
          exact J_96 _ (by rw [if_neg c_83])
        · have c_83 : b = -1 := bz1 hcol c_83
          refine lv_aload_n hx hb dX4_choose_86 rfl (lv_at hl 3 rfl) ?_
          refine ro_goI (ro_V (As := []) (rest := [.ref a]) C hW.rd st_X4_136 (c_X3_candidateCount l D cs _ a cp_p1 hp9_p1 (E_1 5 i) (E_1 4 (J 3 i)) b1_p1 b2_p1 gp_p1 gc_p1) gp_p1 rfl rfl ⟨rfl, rfl, Nat.le_of_ble_eq_true rfl, Nat.le_of_ble_eq_true rfl⟩ rfl hl.1 rfl (Nat.le_of_ble_eq_true rfl) dX4_choose_87 ⟨Nat.le_of_ble_eq_true rfl, Nat.le_of_ble_eq_true rfl⟩) (fun r_87 h_87 => ?_)
          refine top_eq (y := nI (nqc (E_1 4 (J 3 i)))) (Eq.trans h_87 (nqc_eq _)) ?_
          have hn_r_87 := nqc_le (E_1 4 (J 3 i))
          have hk_r_87 : nqc (E_1 4 (J 3 i)) = nqc (E 4 (J 3 i)) := by rw [eE_1, va_up_ne _ _ (by decide), hE 4 (by decide)]
          refine lv_iconst (v := 1) hx hb dX4_choose_90 (by decide) ?_
          refine lv_isub hx hb dX4_choose_91 ?_
          refine lv_goto (tgt := 96) hx hb dX4_choose_92 (by decide) ?_
          exact J_96 _ (by rw [hk_r_87, if_pos c_83])
    · refine lv_iload_n hx hb dX4_choose_65 rfl (lv_at hl 1 rfl) ?_
      refine lv_iconst (v := (-1)) hx hb dX4_choose_66 (by decide) ?_
      refine lv_icmp_ne (tgt := 74) hx hb dX4_choose_67 (by decide) (fun c_67 => ?_) (fun c_67 => ?_)
      · refine lv_iconst (v := 0) hx hb dX4_choose_74 (by decide) ?_
        exact J_75 _ (bI_f (by simp [c_67]))
      · refine lv_iconst (v := 1) hx hb dX4_choose_70 (by decide) ?_
        refine lv_goto (tgt := 75) hx hb dX4_choose_71 (by decide) ?_
        exact J_75 _ (bI_t (by simp [c_67]))
  · have c_9 := cle_f (a := (nqc (E1 4 (J 3 i)))) (b := k) c_9 (by omega) (by omega)
    refine W.cutP (b = -1 ∨ ¬ pBad b ≤ pBad (nI k)) (F0 m 30 ls []) (fun hz_30 => ?_) (fun J_30 => ?_)
    · refine lv_aload_n hx hb dX4_choose_30 rfl (lv_at hl 3 rfl) ?_
      refine lv_iload_n hx hb dX4_choose_31 rfl (lv_at hl 0 rfl) ?_
      refine lv_aload_n hx hb dX4_choose_32 rfl (lv_at hl 2 rfl) ?_
      refine gf_X4_41 C hW.rd (CSx.z hC) rfl dX4_choose_33 ?_
      refine wr_goV hW (wr_V (As := [.int (nI k), .ref (ad 5)]) (rest := []) C hW st_X4_146 (c_X3_draw l D cs A _ a cp_l hp9_l (E1 5 i) (E1 4 (J 3 i)) b1_l b2_l gp_l gc_l (ad 5) fx_tl fy_tl (E1 9 0) (E1 9 1) (E1 9 2) h1_tl h2_tl h3_tl (lab_ne h5_tl h6_tl) (nI k)) gp_l rfl rfl ⟨rfl, rfl, Nat.le_of_ble_eq_true rfl, Nat.le_of_ble_eq_true rfl⟩ rfl hl.1 rfl (Nat.le_of_ble_eq_true rfl) dX4_choose_36 ⟨Nat.le_of_ble_eq_true rfl, Nat.le_of_ble_eq_true rfl⟩) (fun M_36 H locs h_36 hW => ?_)
      rw [h_36] at hW
      obtain ⟨M, E_4, eE_4, hC, hW⟩ : ∃ (M : wM) (E9 : Nat → Nat → Nat → Int32), E9 = xDraw E1 J i (nI k) ∧ CSx cs lab M Z ad w E9 J nn nb nc np NA BA CA PA ∧ wd D A M s.heap H locs := ⟨_, _, rfl, CSx.drawT hC h1_tl h2_tl h3_tl h4_tl h5_tl h6_tl _ _ _, hW⟩
      obtain ⟨d_d, cp_d, hp9_d, b1_d, b2_d, ga_d, gp_d, gl_d, gc_d, gh_d⟩ := CSx.part hC i (by omega)
      have e_d : a = d_d := Option.some.inj (hPAi.symm.trans ga_d)
      subst e_d
      obtain ⟨fx_hd, fy_hd, h1_hd, h2_hd, h3_hd, h4_hd, h5_hd, h6_hd⟩ := gh_d
      have z5 : E_4 5 = E1 5 := by rw [eE_4]; exact xDraw_ne _ _ _ _ (by decide)
      have z4 : E_4 4 = E1 4 := by rw [eE_4]; exact xDraw_ne _ _ _ _ (by decide)
      refine lv_aload_n hx hb dX4_choose_39 rfl (lv_at hl 2 rfl) ?_
      refine lv_iconst (v := 1) hx hb dX4_choose_40 (by decide) ?_
      refine ro_goI (ro_V (As := [.int 1]) (rest := []) C hW.rd st_X4_150 (c_X4_barsMet l D cs _ Z lab ad w E_4 J nn nb nc np NA BA CA PA hC nm nw hnm hnw (by omega) (by omega) 1 (by omega)) (CSx.z hC) rfl rfl ⟨rfl, rfl, Nat.le_of_ble_eq_true rfl, Nat.le_of_ble_eq_true rfl⟩ rfl hl.1 rfl (Nat.le_of_ble_eq_true rfl) dX4_choose_41 ⟨Nat.le_of_ble_eq_true rfl, Nat.le_of_ble_eq_true rfl⟩) (fun r_41 h_41 => ?_)
      refine top_eq (y := nI (min (cnt (xBm E_4 J) nb) 1)) h_41 ?_
      refine lv_if_ne (tgt := 58) hx hb dX4_choose_44 (by decide) (fun c_44 => ?_) (fun c_44 => ?_)
      · have c_44 := ceq_f (a := (min (cnt (xBm E_4 J) nb) 1)) (b := 0) c_44 (by omega) (by omega)
        have c_44 : ¬ cnt (xBq E J i (nI k)) nb = 0 := by rw [eE_4, xBm_d, xBq_e hE] at c_44; omega
        refine lv_iinc (v := nI (k + 1)) (lv' := [(3, .int (nI (k + 1))), (2, .int b), (0, .ref Z), (1, .ref a)]) hx hb dX4_choose_58 hl (k := 0) rfl (by exact tn_add rfl rfl) (by decide) rfl (fun ls hl => ?_)
        refine lv_goto (tgt := 4) hx hb dX4_choose_61 (by decide) ?_
        exact ih_4 ((k + 1), b, E_4, _, _, _, _) ⟨by omega, by rw [eE_4]; exact xEq_d hE J i (nI k), by rw [xCh, ← hbe, if_neg (fun h => c_44 h.2.1)], hC, hW, lv_sub hl [0, 1, 2, 3] rfl⟩ (by show nqc (E 4 (J 3 i)) - (k + 1) < nqc (E 4 (J 3 i)) - k; omega)
      · have c_44 := ceq_t (a := (min (cnt (xBm E_4 J) nb) 1)) (b := 0) c_44 (by omega) (by omega)
        have c_44 : cnt (xBq E J i (nI k)) nb = 0 := by rw [eE_4, xBm_d, xBq_e hE] at c_44; omega
        refine lv_aload_n hx hb dX4_choose_47 rfl (lv_at hl 2 rfl) ?_
        refine lv_aload_n hx hb dX4_choose_48 rfl (lv_at hl 3 rfl) ?_
        refine lv_iconst (v := 1) hx hb dX4_choose_49 (by decide) ?_
        refine ro_goI (ro_V (As := [.ref a, .int 1]) (rest := []) C hW.rd st_X4_153 (c_X4_hullsMet l D cs _ Z lab ad w E_4 J nn nb nc np NA BA CA PA hC hnp (by omega) a cp_d hp9_d (E_4 5 i) (E_4 4 (J 3 i)) b1_d b2_d gp_d gc_d 1 (by omega)) (CSx.z hC) rfl rfl ⟨rfl, rfl, Nat.le_of_ble_eq_true rfl, Nat.le_of_ble_eq_true rfl⟩ rfl hl.1 rfl (Nat.le_of_ble_eq_true rfl) dX4_choose_50 ⟨Nat.le_of_ble_eq_true rfl, Nat.le_of_ble_eq_true rfl⟩) (fun r_50 h_50 => ?_)
        refine top_eq (y := nI (min (cnt (xHm E_4 J (E_4 5 i) (E_4 4 (J 3 i))) np) 1)) h_50 ?_
        refine lv_if_ne (tgt := 58) hx hb dX4_choose_53 (by decide) (fun c_53 => ?_) (fun c_53 => ?_)
        · have c_53 := ceq_f (a := (min (cnt (xHm E_4 J (E_4 5 i) (E_4 4 (J 3 i))) np) 1)) (b := 0) c_53 (by omega) (by omega)
          have c_53 : ¬ cnt (xHq E J i (nI k)) np = 0 := by rw [z5, z4, eE_4, xHm_d, xHq_e hE] at c_53; omega
          refine lv_iinc (v := nI (k + 1)) (lv' := [(3, .int (nI (k + 1))), (2, .int b), (0, .ref Z), (1, .ref a)]) hx hb dX4_choose_58 hl (k := 0) rfl (by exact tn_add rfl rfl) (by decide) rfl (fun ls hl => ?_)
          refine lv_goto (tgt := 4) hx hb dX4_choose_61 (by decide) ?_
          exact ih_4 ((k + 1), b, E_4, _, _, _, _) ⟨by omega, by rw [eE_4]; exact xEq_d hE J i (nI k), by rw [xCh, ← hbe, if_neg (fun h => c_53 h.2.2)], hC, hW, lv_sub hl [0, 1, 2, 3] rfl⟩ (by show nqc (E 4 (J 3 i)) - (k + 1) < nqc (E 4 (J 3 i)) - k; omega)
        · have c_53 := ceq_t (a := (min (cnt (xHm E_4 J (E_4 5 i) (E_4 4 (J 3 i))) np) 1)) (b := 0) c_53 (by omega) (by omega)
          have c_53 : cnt (xHq E J i (nI k)) np = 0 := by rw [z5, z4, eE_4, xHm_d, xHq_e hE] at c_53; omega
          refine lv_iload_n hx hb dX4_choose_56 rfl (lv_at hl 0 rfl) ?_
          refine lv_istore_n (lv' := [(2, .int (nI k)), (3, .int (nI k)), (0, .ref Z), (1, .ref a)]) hx hb dX4_choose_57 rfl hl (by decide) rfl (fun ls hl => ?_)
          refine lv_iinc (v := nI (k + 1)) (lv' := [(3, .int (nI (k + 1))), (2, .int (nI k)), (0, .ref Z), (1, .ref a)]) hx hb dX4_choose_58 hl (k := 1) rfl (by exact tn_add rfl rfl) (by decide) rfl (fun ls hl => ?_)
          refine lv_goto (tgt := 4) hx hb dX4_choose_61 (by decide) ?_
          exact ih_4 ((k + 1), nI k, E_4, _, _, _, _) ⟨by omega, by rw [eE_4]; exact xEq_d hE J i (nI k), by rw [xCh, ← hbe, if_pos ⟨hz_30, c_44, c_53⟩], hC, hW, lv_sub hl [0, 1, 2, 3] rfl⟩ (by show nqc (E 4 (J 3 i)) - (k + 1) < nqc (E 4 (J 3 i)) - k; omega)
    · refine lv_iload_n hx hb dX4_choose_12 rfl (lv_at hl 1 rfl) ?_
      refine lv_iconst (v := (-1)) hx hb dX4_choose_13 (by decide) ?_
      refine lv_icmp_eq (tgt := 30) hx hb dX4_choose_14 (by decide) (fun c_14 => ?_) (fun c_14 => ?_)
      · exact J_30 (Or.inl c_14)
      · refine lv_aload_n hx hb dX4_choose_17 rfl (lv_at hl 3 rfl) ?_
        refine lv_iload_n hx hb dX4_choose_18 rfl (lv_at hl 0 rfl) ?_
        refine ro_goI (ro_V (As := [.int (nI k)]) (rest := []) C hW.rd st_X4_126 (c_X3_badness l D cs _ a (nI k)) gp_l rfl rfl ⟨rfl, rfl, Nat.le_of_ble_eq_true rfl, Nat.le_of_ble_eq_true rfl⟩ rfl hl.1 rfl (Nat.le_of_ble_eq_true rfl) dX4_choose_19 ⟨Nat.le_of_ble_eq_true rfl, Nat.le_of_ble_eq_true rfl⟩) (fun r_19 h_19 => ?_)
        refine lv_aload_n hx hb dX4_choose_22 rfl (lv_at hl 3 rfl) ?_
        refine lv_iload_n hx hb dX4_choose_23 rfl (lv_at hl 1 rfl) ?_
        refine ro_goI (ro_V (As := [.int b]) (rest := [.int r_19]) C hW.rd st_X4_126 (c_X3_badness l D cs _ a b) gp_l rfl rfl ⟨rfl, rfl, Nat.le_of_ble_eq_true rfl, Nat.le_of_ble_eq_true rfl⟩ rfl hl.1 rfl (Nat.le_of_ble_eq_true rfl) dX4_choose_24 ⟨Nat.le_of_ble_eq_true rfl, Nat.le_of_ble_eq_true rfl⟩) (fun r_24 h_24 => ?_)
        refine lv_icmp_ge (tgt := 58) hx hb dX4_choose_27 (by decide) (fun c_27 => ?_) (fun c_27 => ?_)
        · refine lv_iinc (v := nI (k + 1)) (lv' := [(3, .int (nI (k + 1))), (2, .int b), (0, .ref Z), (1, .ref a)]) hx hb dX4_choose_58 hl (k := 0) rfl (by exact tn_add rfl rfl) (by decide) rfl (fun ls hl => ?_)
          refine lv_goto (tgt := 4) hx hb dX4_choose_61 (by decide) ?_
          exact ih_4 ((k + 1), b, E1, _, _, _, _) ⟨by omega, hE, by rw [xCh, ← hbe, if_neg (fun h => h.1.elim c_14 (fun h => h (by rw [h_19, h_24] at c_27; exact c_27)))], hC, hW, lv_sub hl [0, 1, 2, 3] rfl⟩ (by show nqc (E 4 (J 3 i)) - (k + 1) < nqc (E 4 (J 3 i)) - k; omega)
        · exact J_30 (Or.inr (by rw [h_19, h_24] at c_27; exact c_27))


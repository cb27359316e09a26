theorem rBars_le (F : Nat → Nat → Int32) (nm nw k : Nat) (q : Int32) : rBars F nm nw k q ≤ nm + nw := Nat.add_le_add (cnt_le _ _) (cnt_le _ _)
theorem rHulls_le (F : Nat → Nat → Int32) (nc k : Nat) (q : Int32) : rHulls F nc k q ≤ 2 * nc := cnt_le _ _
set_option maxHeartbeats 4000000 in
set_option maxRecDepth 100000 in
theorem c_X5_hulls (l : Launch) (D : va_G) (cs : Nat → ClassId) (A : Nat → Prop) (M : wM) (X : Nat) (ad : Nat → Nat) (v : Nat → Int32) (F : Nat → Nat → Int32) (G : Nat → Nat → Int64) (hS : RS cs M X ad v F G) (nc : Nat) (hnc : v 19 = nI nc) (hc40 : nc ≤ 40) (k : Nat) (hk : k < 80) (q : Int32) : Met l yX5_hulls (mw yX5_hulls cX5_hulls 6 (some .int)) { frames := 4, cells := 0, slots := 0, locals := 113 } (wrP D cs A M [.ref X, .int (nI k), .int q]) (va_Qi (fun r M' => ∃ G', RS cs M' X ad v F G' ∧ r = nI (rHulls F nc k q)) (wrB D A) A) 0 0 A := by
  refine wr_met rfl (Nat.le_of_ble_eq_true rfl) ?_
  intro p e s m below meth c ls C hW hr hlk hini hl
  have C : kx D cs p m c cX5_hulls 6 s _ RX5 := C
  have hx := C.1.1
  have hb := C.1.2.1
  have hl : lv_has ls 6 [(0, .ref X), (1, .int (nI k)), (2, .int q)] := hl
  refine lv_aload_n hx hb dX5_hulls_0 rfl (lv_at hl 0 rfl) ?_
  refine lv_iload_n hx hb dX5_hulls_1 rfl (lv_at hl 1 rfl) ?_
  refine lv_iload_n hx hb dX5_hulls_2 rfl (lv_at hl 2 rfl) ?_
  refine wr_goV hW (wr_V (As := [.int (nI k), .int q]) (rest := []) C hW st_X5_198 (c_X5_ask l D cs A _ X ad v F G hS k (by omega) q) hS.1 rfl rfl ⟨rfl, rfl, Nat.le_of_ble_eq_true rfl, Nat.le_of_ble_eq_true rfl⟩ rfl hl.1 rfl (Nat.le_of_ble_eq_true rfl) dX5_hulls_3 ⟨Nat.le_of_ble_eq_true rfl, Nat.le_of_ble_eq_true rfl⟩) (fun M_3 H locs h_3 hW => ?_)
  obtain ⟨G_1, hS, hA⟩ := h_3
  refine lv_iconst (v := 0) hx hb dX5_hulls_6 (by decide) ?_
  refine lv_istore_n (lv' := [(3, .int 0), (0, .ref X), (1, .int (nI k)), (2, .int q)]) hx hb dX5_hulls_7 rfl hl (by decide) rfl (fun ls hl => ?_)
  refine lv_iconst (v := 0) hx hb dX5_hulls_8 (by decide) ?_
  refine lv_istore (lv' := [(4, .int 0), (3, .int 0), (0, .ref X), (1, .int (nI k)), (2, .int q)]) hx hb dX5_hulls_9 hl (by decide) rfl (fun ls hl => ?_)
  refine W.loopW (σ := Nat × Nat × (Nat → Nat → Int64) × Heap × List Loc × wM × Array Slot) (fun ⟨j, n, G1, H, locs, M, ls⟩ => F0 m 11 ls []) (fun ⟨j, n, G1, H, locs, M, ls⟩ => H) (fun ⟨j, n, G1, H, locs, M, ls⟩ => locs) (fun ⟨j, n, G1, H, locs, M, ls⟩ => (j ≤ 2 * nc) ∧ (n = cnt (cH F k q) j) ∧ (RS cs M X ad v F G1) ∧ (askI F k q 4 G1) ∧ wd D A M s.heap H locs ∧ lv_has ls 6 [(4, .int (nI j)), (3, .int (nI n)), (0, .ref X), (1, .int (nI k)), (2, .int q)]) (fun ⟨j, n, G1, H, locs, M, ls⟩ => 2 * nc - j) ?_ (0, 0, G_1, _, _, _, _) ⟨by omega, rfl, hS, hA, hW, lv_sub hl [0, 1, 2, 3, 4] rfl⟩ rfl rfl rfl
  intro ⟨j, n, G1, H, locs, M, ls⟩ ⟨hj, hn, hS, hA, hW, hl⟩ ih_11
  show W _ _ _ _ _ _ _ _ _ _ H locs _ _ _ (F0 m 11 ls [])
  have hl : lv_has ls 6 [(4, .int (nI j)), (3, .int (nI n)), (0, .ref X), (1, .int (nI k)), (2, .int q)] := hl
  refine lv_iload hx hb dX5_hulls_11 (lv_at hl 0 rfl) ?_
  refine lv_iconst (v := 2) hx hb dX5_hulls_13 (by decide) ?_
  refine lv_aload_n hx hb dX5_hulls_14 rfl (lv_at hl 2 rfl) ?_
  refine gf_X5_136 C hW.rd hS.1 rfl dX5_hulls_15 ?_
  refine top_eq (y := nI nc) hnc ?_
  refine lv_imul hx hb dX5_hulls_18 ?_
  refine top_eq (y := nI (2 * nc)) (tn_mul rfl rfl) ?_
  refine lv_icmp_ge (tgt := 115) hx hb dX5_hulls_19 (by decide) (fun c_19 => ?_) (fun c_19 => ?_)
  · have c_19 := cle_t (a := (2 * nc)) (b := j) c_19 (by omega) (by omega)
    refine lv_iload_n hx hb dX5_hulls_115 rfl (lv_at hl 1 rfl) ?_
    exact wr_iret C hW hr hlk (⟨_, hS, by rw [hn, show j = 2 * nc by omega]; rfl⟩) dX5_hulls_116
  · have c_19 := cle_f (a := (2 * nc)) (b := j) c_19 (by omega) (by omega)
    refine lv_iload hx hb dX5_hulls_22 (lv_at hl 0 rfl) ?_
    refine lv_iconst (v := 2) hx hb dX5_hulls_24 (by decide) ?_
    refine lv_irem hx hb dX5_hulls_25 (by decide) ?_
    refine top_eq (y := nI (j % 2)) (tn_rem rfl rfl (by omega) (by decide) (by decide)) ?_
    refine lv_aload_n hx hb dX5_hulls_26 rfl (lv_at hl 2 rfl) ?_
    refine gf_X5_68 C hW.rd hS.1 rfl dX5_hulls_27 ?_
    refine lv_iload hx hb dX5_hulls_30 (lv_at hl 0 rfl) ?_
    refine lv_iconst (v := 2) hx hb dX5_hulls_32 (by decide) ?_
    refine lv_idiv hx hb dX5_hulls_33 (by decide) ?_
    refine top_eq (y := nI (j / 2)) (tn_div rfl rfl (by omega) (by decide) (by decide)) ?_
    refine r_ialdN (k := (j / 2)) C hW.rd (RS.i hS 24 40 rfl rfl) (by omega) (by decide) rfl dX5_hulls_34 ?_
    refine lv_icmp_ge (tgt := 109) hx hb dX5_hulls_35 (by decide) (fun c_35 => ?_) (fun c_35 => ?_)
    · refine lv_iinc (v := nI (j + 1)) (lv' := [(4, .int (nI (j + 1))), (3, .int (nI n)), (0, .ref X), (1, .int (nI k)), (2, .int q)]) hx hb dX5_hulls_109 hl (k := 0) rfl (by exact tn_add rfl rfl) (by decide) rfl (fun ls hl => ?_)
      refine lv_goto (tgt := 11) hx hb dX5_hulls_112 (by decide) ?_
      exact ih_11 ((j + 1), n, G1, _, _, _, _) ⟨by omega, by rw [hn]; simp [cnt, cH, c_35], hS, hA, hW, lv_sub hl [0, 1, 2, 3, 4] rfl⟩ (by show 2 * nc - (j + 1) < 2 * nc - j; omega)
    · refine lv_aload_n hx hb dX5_hulls_38 rfl (lv_at hl 2 rfl) ?_
      refine lv_iload hx hb dX5_hulls_39 (lv_at hl 0 rfl) ?_
      refine lv_iload_n hx hb dX5_hulls_41 rfl (lv_at hl 3 rfl) ?_
      refine ro_goI (ro_V (As := [.int (nI j), .int (nI k)]) (rest := []) C hW.rd st_X5_209 (c_X5_isIn l D cs _ X ad v F G1 hS j k (by omega) (by omega)) hS.1 rfl rfl ⟨rfl, rfl, Nat.le_of_ble_eq_true rfl, Nat.le_of_ble_eq_true rfl⟩ rfl hl.1 rfl (Nat.le_of_ble_eq_true rfl) dX5_hulls_42 ⟨Nat.le_of_ble_eq_true rfl, Nat.le_of_ble_eq_true rfl⟩) (fun r_42 h_42 => ?_)
      refine lv_if_eq (tgt := 109) hx hb dX5_hulls_45 (by decide) (fun c_45 => ?_) (fun c_45 => ?_)
      · have c_45 : ¬ (rIn F j k = true) := bz0 h_42 c_45
        refine lv_iinc (v := nI (j + 1)) (lv' := [(4, .int (nI (j + 1))), (3, .int (nI n)), (0, .ref X), (1, .int (nI k)), (2, .int q)]) hx hb dX5_hulls_109 hl (k := 0) rfl (by exact tn_add rfl rfl) (by decide) rfl (fun ls hl => ?_)
        refine lv_goto (tgt := 11) hx hb dX5_hulls_112 (by decide) ?_
        exact ih_11 ((j + 1), n, G1, _, _, _, _) ⟨by omega, by rw [hn]; simp [cnt, cH, c_35, c_45], hS, hA, hW, lv_sub hl [0, 1, 2, 3, 4] rfl⟩ (by show 2 * nc - (j + 1) < 2 * nc - j; omega)
      · have c_45 : rIn F j k = true := bz1 h_42 c_45
        refine lv_iconst (v := 0) hx hb dX5_hulls_48 (by decide) ?_
        refine lv_istore (lv' := [(5, .int 0), (4, .int (nI j)), (3, .int (nI n)), (0, .ref X), (1, .int (nI k)), (2, .int q)]) hx hb dX5_hulls_49 hl (by decide) rfl (fun ls hl => ?_)
        refine W.loopW (σ := Nat × (Nat → Nat → Int64) × Heap × List Loc × wM × Array Slot) (fun ⟨i, G2, H, locs, M, ls⟩ => F0 m 51 ls []) (fun ⟨i, G2, H, locs, M, ls⟩ => H) (fun ⟨i, G2, H, locs, M, ls⟩ => locs) (fun ⟨i, G2, H, locs, M, ls⟩ => (i ≤ 4) ∧ (RS cs M X ad v F G2) ∧ (askI F k q 4 G2) ∧ (othI F j i G2) ∧ wd D A M s.heap H locs ∧ lv_has ls 6 [(5, .int (nI i)), (4, .int (nI j)), (3, .int (nI n)), (0, .ref X), (1, .int (nI k)), (2, .int q)]) (fun ⟨i, G2, H, locs, M, ls⟩ => 4 - i) ?_ (0, G1, _, _, _, _) ⟨by omega, hS, hA, fun i h => absurd h (by omega), hW, lv_sub hl [0, 1, 2, 3, 4, 5] rfl⟩ rfl rfl rfl
        intro ⟨i, G2, H, locs, M, ls⟩ ⟨hi, hS, hA, hO, hW, hl⟩ ih_51
        show W _ _ _ _ _ _ _ _ _ _ H locs _ _ _ (F0 m 51 ls [])
        have hl : lv_has ls 6 [(5, .int (nI i)), (4, .int (nI j)), (3, .int (nI n)), (0, .ref X), (1, .int (nI k)), (2, .int q)] := hl
        refine lv_iload hx hb dX5_hulls_51 (lv_at hl 0 rfl) ?_
        refine lv_iconst (v := 4) hx hb dX5_hulls_53 (by decide) ?_
        refine lv_icmp_ge (tgt := 94) hx hb dX5_hulls_54 (by decide) (fun c_54 => ?_) (fun c_54 => ?_)
        · have c_54 := cle_t (a := 4) (b := i) c_54 (by omega) (by omega)
          refine lv_iload_n hx hb dX5_hulls_94 rfl (lv_at hl 2 rfl) ?_
          refine W.cut (fun z => z = nI (if rMeet G2 = true then 1 else 0)) (fun z => F0 m 107 ls (.int z :: [.int (nI n)])) (fun z_107 hz_107 => ?_) (fun J_107 => ?_)
          · subst hz_107
            refine lv_iadd hx hb dX5_hulls_107 ?_
            refine top_eq (y := nI (n + (if rMeet G2 = true then 1 else 0))) (tn_add rfl rfl) ?_
            refine lv_istore_n (lv' := [(3, .int (nI (n + (if rMeet G2 = true then 1 else 0)))), (5, .int (nI i)), (4, .int (nI j)), (0, .ref X), (1, .int (nI k)), (2, .int q)]) hx hb dX5_hulls_108 rfl hl (by decide) rfl (fun ls hl => ?_)
            refine lv_iinc (v := nI (j + 1)) (lv' := [(4, .int (nI (j + 1))), (3, .int (nI (n + (if rMeet G2 = true then 1 else 0)))), (5, .int (nI i)), (0, .ref X), (1, .int (nI k)), (2, .int q)]) hx hb dX5_hulls_109 hl (k := 2) rfl (by exact tn_add rfl rfl) (by decide) rfl (fun ls hl => ?_)
            refine lv_goto (tgt := 11) hx hb dX5_hulls_112 (by decide) ?_
            exact ih_11 ((j + 1), (n + (if rMeet G2 = true then 1 else 0)), G2, _, _, _, _) ⟨by omega, by rw [hn, othM hA (by rw [show i = 4 by omega] at hO; exact hO)]; simp [cnt, cH, c_35, c_45], hS, hA, hW, lv_sub hl [0, 1, 3, 4, 5] rfl⟩ (by show 2 * nc - (j + 1) < 2 * nc - j; omega)
          · refine lv_aload_n hx hb dX5_hulls_95 rfl (lv_at hl 3 rfl) ?_
            refine ro_goI (ro_V (As := []) (rest := [.int (nI n)]) C hW.rd st_X5_205 (c_X5_meets l D cs _ X ad v F G2 hS) hS.1 rfl rfl ⟨rfl, rfl, Nat.le_of_ble_eq_true rfl, Nat.le_of_ble_eq_true rfl⟩ rfl hl.1 rfl (Nat.le_of_ble_eq_true rfl) dX5_hulls_96 ⟨Nat.le_of_ble_eq_true rfl, Nat.le_of_ble_eq_true rfl⟩) (fun r_96 h_96 => ?_)
            refine lv_if_eq (tgt := 106) hx hb dX5_hulls_99 (by decide) (fun c_99 => ?_) (fun c_99 => ?_)
            · have c_99 : ¬ (rMeet G2 = true) := bz0 h_96 c_99
              refine lv_iconst (v := 0) hx hb dX5_hulls_106 (by decide) ?_
              exact J_107 _ (by rw [if_neg c_99]; rfl)
            · have c_99 : rMeet G2 = true := bz1 h_96 c_99
              refine lv_iconst (v := 1) hx hb dX5_hulls_102 (by decide) ?_
              refine lv_goto (tgt := 107) hx hb dX5_hulls_103 (by decide) ?_
              exact J_107 _ (by rw [if_pos c_99]; rfl)
        · have c_54 := cle_f (a := 4) (b := i) c_54 (by omega) (by omega)
          refine lv_aload_n hx hb dX5_hulls_57 rfl (lv_at hl 3 rfl) ?_
          refine lv_iload hx hb dX5_hulls_58 (lv_at hl 0 rfl) ?_
          refine lv_aload_n hx hb dX5_hulls_60 rfl (lv_at hl 3 rfl) ?_
          refine lv_iload hx hb dX5_hulls_61 (lv_at hl 1 rfl) ?_
          refine lv_iload hx hb dX5_hulls_63 (lv_at hl 0 rfl) ?_
          refine ro_goI (ro_V (As := [.int (nI j), .int (nI i)]) (rest := [.int (nI i), .ref X]) C hW.rd st_X5_191 (c_X5_px l D cs _ X ad v F G2 hS j (by omega) (nI i)) hS.1 rfl rfl ⟨rfl, rfl, Nat.le_of_ble_eq_true rfl, Nat.le_of_ble_eq_true rfl⟩ rfl hl.1 rfl (Nat.le_of_ble_eq_true rfl) dX5_hulls_65 ⟨Nat.le_of_ble_eq_true rfl, Nat.le_of_ble_eq_true rfl⟩) (fun r_65 h_65 => ?_)
          refine lv_i2l hx hb dX5_hulls_68 rfl ?_
          refine lv_aload_n hx hb dX5_hulls_69 rfl (lv_at hl 3 rfl) ?_
          refine lv_iload hx hb dX5_hulls_70 (lv_at hl 1 rfl) ?_
          refine lv_aload_n hx hb dX5_hulls_72 rfl (lv_at hl 3 rfl) ?_
          refine gf_X5_86 C hW.rd hS.1 rfl dX5_hulls_73 ?_
          refine lv_iload hx hb dX5_hulls_76 (lv_at hl 1 rfl) ?_
          refine r_ialdN (k := j) C hW.rd (RS.i hS 30 80 rfl rfl) (by omega) (by decide) rfl dX5_hulls_78 ?_
          refine lv_iload hx hb dX5_hulls_79 (lv_at hl 0 rfl) ?_
          refine ro_goI (ro_V (As := [.int (nI j), .int (F 30 j), .int (nI i)]) (rest := [.long r_65.toInt64, .int (nI i), .ref X]) C hW.rd st_X5_194 (c_X5_py l D cs _ X ad v F G2 hS j (by omega) (F 30 j) (nI i)) hS.1 rfl rfl ⟨rfl, rfl, Nat.le_of_ble_eq_true rfl, Nat.le_of_ble_eq_true rfl⟩ rfl hl.1 rfl (Nat.le_of_ble_eq_true rfl) dX5_hulls_81 ⟨Nat.le_of_ble_eq_true rfl, Nat.le_of_ble_eq_true rfl⟩) (fun r_81 h_81 => ?_)
          refine lv_i2l hx hb dX5_hulls_84 rfl ?_
          refine wr_goV hW (wr_V (As := [.int (nI i), .long r_65.toInt64, .long r_81.toInt64]) (rest := []) C hW st_X5_201 (c_X5_other l D cs A _ X ad v F G2 hS i (by omega) r_65.toInt64 r_81.toInt64) hS.1 rfl rfl ⟨rfl, rfl, Nat.le_of_ble_eq_true rfl, Nat.le_of_ble_eq_true rfl⟩ rfl hl.1 rfl (Nat.le_of_ble_eq_true rfl) dX5_hulls_85 ⟨Nat.le_of_ble_eq_true rfl, Nat.le_of_ble_eq_true rfl⟩) (fun M_85 H locs h_85 hW => ?_)
          obtain ⟨G_2, hS, eG_2⟩ := h_85
          refine lv_iinc (v := nI (i + 1)) (lv' := [(5, .int (nI (i + 1))), (4, .int (nI j)), (3, .int (nI n)), (0, .ref X), (1, .int (nI k)), (2, .int q)]) hx hb dX5_hulls_88 hl (k := 0) rfl (by exact tn_add rfl rfl) (by decide) rfl (fun ls hl => ?_)
          refine lv_goto (tgt := 51) hx hb dX5_hulls_91 (by decide) ?_
          exact ih_51 ((i + 1), G_2, _, _, _, _) ⟨by omega, hS, by subst eG_2; exact askI_o hA _ _ _, by subst eG_2; exact othI_s hO h_65 h_81, hW, lv_sub hl [0, 1, 2, 3, 4, 5] rfl⟩ (by show 4 - (i + 1) < 4 - i; omega)

def nq (F : Nat → Nat → Int32) (k : Nat) : Nat := if F 22 (k / 2) = 0 then 24 else 8
theorem nq_eq (F : Nat → Nat → Int32) (k : Nat) : (if F 22 (k / 2) = 0 then (24 : Int32) else 8) = nI (nq F k) := by unfold nq; split <;> rfl
theorem nq_le (F : Nat → Nat → Int32) (k : Nat) : 8 ≤ nq F k ∧ nq F k ≤ 24 := by unfold nq; split <;> omega
def chB (F : Nat → Nat → Int32) (nm nw nc k : Nat) : Nat → Int32
  | 0 => -9005
  | q + 1 => if (chB F nm nw nc k q = -9005 ∨ ¬ rBad (chB F nm nw nc k q) ≤ rBad (nI q)) ∧ rBars F nm nw k (nI q) = 0 ∧ rHulls F nc k (nI q) = 0 then nI q else chB F nm nw nc k q
def rChoose (F : Nat → Nat → Int32) (nm nw nc k : Nat) : Nat → Nat → Int32 := sF (sF F 31 k (bI (chB F nm nw nc k (nq F k) = -9005))) 30 k (if chB F nm nw nc k (nq F k) = -9005 then nI (nq F k) - 1 else chB F nm nw nc k (nq F k))
set_option maxHeartbeats 4000000 in
set_option maxRecDepth 100000 in
theorem c_X5_choose (l : Launch) (D : va_G) (cs : Nat → ClassId) (A : Nat → Prop) (M : wM) (X : Nat) (ad : Nat → Nat) (v : Nat → Int32) (F : Nat → Nat → Int32) (G : Nat → Nat → Int64) (hS : RS cs M X ad v F G) (nm nw nc : Nat) (hnm : v 7 = nI nm) (hm40 : nm ≤ 40) (hnw : v 13 = nI nw) (hw12 : nw ≤ 12) (hnc : v 19 = nI nc) (hc40 : nc ≤ 40) (c0 p0 : Nat) (hc0 : c0 < 40) (hp0 : p0 < 2) : Met l yX5_choose (mw yX5_choose cX5_choose 7 none) { frames := 5, cells := 0, slots := 0, locals := 138 } (wrP D cs A M [.ref X, .int (nI c0), .int (nI p0)]) (va_Qv (fun M' => ∃ F' G', RS cs M' X ad v F' G' ∧ F' = rChoose F nm nw nc (2 * c0 + p0)) (wrB D A) A) 0 0 A := by
  refine wr_met rfl (Nat.le_of_ble_eq_true rfl) ?_
  intro p e s m below meth c ls C hW hr hlk hini hl
  have C : kx D cs p m c cX5_choose 7 s _ RX5 := C
  have hx := C.1.1
  have hb := C.1.2.1
  have hl : lv_has ls 7 [(0, .ref X), (1, .int (nI c0)), (2, .int (nI p0))] := hl
  refine lv_iconst (v := 2) hx hb dX5_choose_0 (by decide) ?_
  refine lv_iload_n hx hb dX5_choose_1 rfl (lv_at hl 1 rfl) ?_
  refine lv_imul hx hb dX5_choose_2 ?_
  refine top_eq (y := nI (2 * c0)) (tn_mul rfl rfl) ?_
  refine lv_iload_n hx hb dX5_choose_3 rfl (lv_at hl 2 rfl) ?_
  refine lv_iadd hx hb dX5_choose_4 ?_
  refine top_eq (y := nI ((2 * c0) + p0)) (tn_add rfl rfl) ?_
  refine lv_istore_n (lv' := [(3, .int (nI ((2 * c0) + p0))), (0, .ref X), (1, .int (nI c0)), (2, .int (nI p0))]) hx hb dX5_choose_5 rfl hl (by decide) rfl (fun ls hl => ?_)
  refine lv_sipush (v := (-9005)) hx hb dX5_choose_6 (by decide) ?_
  refine lv_istore (lv' := [(4, .int (-9005)), (3, .int (nI ((2 * c0) + p0))), (0, .ref X), (1, .int (nI c0)), (2, .int (nI p0))]) hx hb dX5_choose_9 hl (by decide) rfl (fun ls hl => ?_)
  refine lv_iconst (v := 0) hx hb dX5_choose_11 (by decide) ?_
  refine lv_istore (lv' := [(5, .int 0), (4, .int (-9005)), (3, .int (nI ((2 * c0) + p0))), (0, .ref X), (1, .int (nI c0)), (2, .int (nI p0))]) hx hb dX5_choose_12 hl (by decide) rfl (fun ls hl => ?_)
  refine W.loopW (σ := Nat × Int32 × (Nat → Nat → Int64) × Heap × List Loc × wM × Array Slot) (fun ⟨q, b, G1, H, locs, M, ls⟩ => F0 m 14 ls []) (fun ⟨q, b, G1, H, locs, M, ls⟩ => H) (fun ⟨q, b, G1, H, locs, M, ls⟩ => locs) (fun ⟨q, b, G1, H, locs, M, ls⟩ => (q ≤ nq F (2 * c0 + p0)) ∧ (b = chB F nm nw nc (2 * c0 + p0) q) ∧ (RS cs M X ad v F G1) ∧ wd D A M s.heap H locs ∧ lv_has ls 7 [(5, .int (nI q)), (4, .int b), (3, .int (nI (2 * c0 + p0))), (0, .ref X), (1, .int (nI c0)), (2, .int (nI p0))]) (fun ⟨q, b, G1, H, locs, M, ls⟩ => nq F (2 * c0 + p0) - q) ?_ (0, (-9005), G, _, _, _, _) ⟨by omega, rfl, hS, hW, lv_sub hl [0, 1, 2, 3, 4, 5] rfl⟩ rfl rfl rfl
  intro ⟨q, b, G1, H, locs, M, ls⟩ ⟨hq, hbe, hS, hW, hl⟩ ih_14
  show W _ _ _ _ _ _ _ _ _ _ H locs _ _ _ (F0 m 14 ls [])
  have hl : lv_has ls 7 [(5, .int (nI q)), (4, .int b), (3, .int (nI (2 * c0 + p0))), (0, .ref X), (1, .int (nI c0)), (2, .int (nI p0))] := hl
  have hqn := nq_le F (2 * c0 + p0)
  refine lv_iload hx hb dX5_choose_14 (lv_at hl 0 rfl) ?_
  refine lv_aload_n hx hb dX5_choose_16 rfl (lv_at hl 3 rfl) ?_
  refine lv_iload_n hx hb dX5_choose_17 rfl (lv_at hl 2 rfl) ?_
  refine ro_goI (ro_V (As := [.int (nI (2 * c0 + p0))]) (rest := [.int (nI q)]) C hW.rd st_X5_212 (c_X5_candidates l D cs _ X ad v F G1 hS (2 * c0 + p0) (by omega)) hS.1 rfl rfl ⟨rfl, rfl, Nat.le_of_ble_eq_true rfl, Nat.le_of_ble_eq_true rfl⟩ rfl hl.1 rfl (Nat.le_of_ble_eq_true rfl) dX5_choose_18 ⟨Nat.le_of_ble_eq_true rfl, Nat.le_of_ble_eq_true rfl⟩) (fun r_18 h_18 => ?_)
  refine top_eq (y := nI (nq F (2 * c0 + p0))) (Eq.trans h_18 (nq_eq _ _)) ?_
  have hq_r_18 := nq_le F (2 * c0 + p0)
  refine lv_icmp_ge (tgt := 87) hx hb dX5_choose_21 (by decide) (fun c_21 => ?_) (fun c_21 => ?_)
  · have c_21 := cle_t (a := (nq F (2 * c0 + p0))) (b := q) c_21 (by omega) (by omega)
    refine lv_aload_n hx hb dX5_choose_87 rfl (lv_at hl 3 rfl) ?_
    refine gf_X5_89 C hW.rd hS.1 rfl dX5_choose_88 ?_
    refine lv_iload_n hx hb dX5_choose_91 rfl (lv_at hl 2 rfl) ?_
    refine W.cut (fun z => z = bI (b = -9005)) (fun z => F0 m 105 ls (.int z :: [.int (nI (2 * c0 + p0)), .ref (ad 31)])) (fun z_105 hz_105 => ?_) (fun J_105 => ?_)
    · refine w_iastN (k := (2 * c0 + p0)) C hW (RS.i hS 31 80 rfl rfl) (by omega) (by decide) rfl dX5_choose_105 (fun H locs hW => ?_)
      obtain ⟨M, F_1, eF_1, hS, hW⟩ : ∃ (M : wM) (w0 : Nat → Nat → Int32), w0 = sF F 31 (2 * c0 + p0) z_105 ∧ RS cs M X ad v w0 G1 ∧ wd D A M s.heap H locs := ⟨_, _, rfl, RS.setI hS 31 rfl (2 * c0 + p0) z_105, hW⟩
      refine lv_aload_n hx hb dX5_choose_106 rfl (lv_at hl 3 rfl) ?_
      refine gf_X5_86 C hW.rd hS.1 rfl dX5_choose_107 ?_
      refine lv_iload_n hx hb dX5_choose_110 rfl (lv_at hl 2 rfl) ?_
      refine W.cut (fun z => z = if b = -9005 then nI (nq F_1 (2 * c0 + p0)) - 1 else b) (fun z => F0 m 131 ls (.int z :: [.int (nI (2 * c0 + p0)), .ref (ad 30)])) (fun z_131 hz_131 => ?_) (fun J_131 => ?_)
      · refine w_iastN (k := (2 * c0 + p0)) C hW (RS.i hS 30 80 rfl rfl) (by omega) (by decide) rfl dX5_choose_131 (fun H locs hW => ?_)
        obtain ⟨M, F_2, eF_2, hS, hW⟩ : ∃ (M : wM) (w0 : Nat → Nat → Int32), w0 = sF F_1 30 (2 * c0 + p0) z_131 ∧ RS cs M X ad v w0 G1 ∧ wd D A M s.heap H locs := ⟨_, _, rfl, RS.setI hS 30 rfl (2 * c0 + p0) z_131, hW⟩
        exact wr_vret C hW hr hlk (⟨_, _, hS, by have e := Nat.le_antisymm hq c_21; subst eF_2 eF_1; subst e; subst hbe; subst hz_105; subst hz_131; rfl⟩) dX5_choose_132
      · refine lv_iload hx hb dX5_choose_111 (lv_at hl 1 rfl) ?_
        refine lv_sipush (v := (-9005)) hx hb dX5_choose_113 (by decide) ?_
        refine lv_icmp_ne (tgt := 129) hx hb dX5_choose_116 (by decide) (fun c_116 => ?_) (fun c_116 => ?_)
        · refine lv_iload hx hb dX5_choose_129 (lv_at hl 1 rfl) ?_
          exact J_131 _ (by simp [c_116])
        · refine lv_aload_n hx hb dX5_choose_119 rfl (lv_at hl 3 rfl) ?_
          refine lv_iload_n hx hb dX5_choose_120 rfl (lv_at hl 2 rfl) ?_
          refine ro_goI (ro_V (As := [.int (nI (2 * c0 + p0))]) (rest := [.int (nI (2 * c0 + p0)), .ref (ad 30)]) C hW.rd st_X5_212 (c_X5_candidates l D cs _ X ad v F_1 G1 hS (2 * c0 + p0) (by omega)) hS.1 rfl rfl ⟨rfl, rfl, Nat.le_of_ble_eq_true rfl, Nat.le_of_ble_eq_true rfl⟩ rfl hl.1 rfl (Nat.le_of_ble_eq_true rfl) dX5_choose_121 ⟨Nat.le_of_ble_eq_true rfl, Nat.le_of_ble_eq_true rfl⟩) (fun r_121 h_121 => ?_)
          refine top_eq (y := nI (nq F_1 (2 * c0 + p0))) (Eq.trans h_121 (nq_eq _ _)) ?_
          have hq_r_121 := nq_le F_1 (2 * c0 + p0)
          refine lv_iconst (v := 1) hx hb dX5_choose_124 (by decide) ?_
          refine lv_isub hx hb dX5_choose_125 ?_
          refine lv_goto (tgt := 131) hx hb dX5_choose_126 (by decide) ?_
          exact J_131 _ (by simp [c_116])
    · refine lv_iload hx hb dX5_choose_92 (lv_at hl 1 rfl) ?_
      refine lv_sipush (v := (-9005)) hx hb dX5_choose_94 (by decide) ?_
      refine lv_icmp_ne (tgt := 104) hx hb dX5_choose_97 (by decide) (fun c_97 => ?_) (fun c_97 => ?_)
      · refine lv_iconst (v := 0) hx hb dX5_choose_104 (by decide) ?_
        exact J_105 _ (bI_f (by simp [c_97]))
      · refine lv_iconst (v := 1) hx hb dX5_choose_100 (by decide) ?_
        refine lv_goto (tgt := 105) hx hb dX5_choose_101 (by decide) ?_
        exact J_105 _ (bI_t (by simp [c_97]))
  · have c_21 := cle_f (a := (nq F (2 * c0 + p0))) (b := q) c_21 (by omega) (by omega)
    refine W.cut (fun z => z = bI (b = -9005 ∨ ¬ rBad b ≤ rBad (nI q))) (fun z => F0 m 50 ls (.int z :: [])) (fun z_50 hz_50 => ?_) (fun J_50 => ?_)
    · refine lv_istore (lv' := [(6, .int z_50), (5, .int (nI q)), (4, .int b), (3, .int (nI (2 * c0 + p0))), (0, .ref X), (1, .int (nI c0)), (2, .int (nI p0))]) hx hb dX5_choose_50 hl (by decide) rfl (fun ls hl => ?_)
      refine lv_iload hx hb dX5_choose_52 (lv_at hl 0 rfl) ?_
      refine lv_if_eq (tgt := 81) hx hb dX5_choose_54 (by decide) (fun c_54 => ?_) (fun c_54 => ?_)
      · have c_54 : ¬ (b = -9005 ∨ ¬ rBad b ≤ rBad (nI q)) := bz0 hz_50 c_54
        refine lv_iinc (v := nI (q + 1)) (lv' := [(5, .int (nI (q + 1))), (6, .int z_50), (4, .int b), (3, .int (nI (2 * c0 + p0))), (0, .ref X), (1, .int (nI c0)), (2, .int (nI p0))]) hx hb dX5_choose_81 hl (k := 1) rfl (by exact tn_add rfl rfl) (by decide) rfl (fun ls hl => ?_)
        refine lv_goto (tgt := 14) hx hb dX5_choose_84 (by decide) ?_
        exact ih_14 ((q + 1), b, G1, _, _, _, _) ⟨by omega, by rw [chB, ← hbe, if_neg (fun h => c_54 h.1)], hS, hW, lv_sub hl [0, 2, 3, 4, 5, 6] rfl⟩ (by show nq F (2 * c0 + p0) - (q + 1) < nq F (2 * c0 + p0) - q; omega)
      · have c_54 : b = -9005 ∨ ¬ rBad b ≤ rBad (nI q) := bz1 hz_50 c_54
        refine lv_aload_n hx hb dX5_choose_57 rfl (lv_at hl 4 rfl) ?_
        refine lv_iload_n hx hb dX5_choose_58 rfl (lv_at hl 3 rfl) ?_
        refine lv_iload hx hb dX5_choose_59 (lv_at hl 1 rfl) ?_
        refine wr_goI hW (wr_V (As := [.int (nI (2 * c0 + p0)), .int (nI q)]) (rest := []) C hW st_X5_218 (c_X5_bars l D cs A _ X ad v F G1 hS nm nw hnm (by omega) hnw (by omega) (2 * c0 + p0) (by omega) (nI q)) hS.1 rfl rfl ⟨rfl, rfl, Nat.le_of_ble_eq_true rfl, Nat.le_of_ble_eq_true rfl⟩ rfl hl.1 rfl (Nat.le_of_ble_eq_true rfl) dX5_choose_61 ⟨Nat.le_of_ble_eq_true rfl, Nat.le_of_ble_eq_true rfl⟩) (fun r_61 M_61 H locs h_61 hW => ?_)
        obtain ⟨G_3, hS, er_61⟩ := h_61
        refine top_eq (y := nI (rBars F nm nw (2 * c0 + p0) (nI q))) er_61 ?_
        have hB_r_61 := rBars_le F nm nw (2 * c0 + p0) (nI q)
        refine lv_if_ne (tgt := 81) hx hb dX5_choose_64 (by decide) (fun c_64 => ?_) (fun c_64 => ?_)
        · have c_64 := ceq_f (a := (rBars F nm nw (2 * c0 + p0) (nI q))) (b := 0) c_64 (by omega) (by omega)
          refine lv_iinc (v := nI (q + 1)) (lv' := [(5, .int (nI (q + 1))), (6, .int z_50), (4, .int b), (3, .int (nI (2 * c0 + p0))), (0, .ref X), (1, .int (nI c0)), (2, .int (nI p0))]) hx hb dX5_choose_81 hl (k := 1) rfl (by exact tn_add rfl rfl) (by decide) rfl (fun ls hl => ?_)
          refine lv_goto (tgt := 14) hx hb dX5_choose_84 (by decide) ?_
          exact ih_14 ((q + 1), b, G_3, _, _, _, _) ⟨by omega, by rw [chB, ← hbe, if_neg (fun h => c_64 h.2.1)], hS, hW, lv_sub hl [0, 2, 3, 4, 5, 6] rfl⟩ (by show nq F (2 * c0 + p0) - (q + 1) < nq F (2 * c0 + p0) - q; omega)
        · have c_64 := ceq_t (a := (rBars F nm nw (2 * c0 + p0) (nI q))) (b := 0) c_64 (by omega) (by omega)
          refine lv_aload_n hx hb dX5_choose_67 rfl (lv_at hl 4 rfl) ?_
          refine lv_iload_n hx hb dX5_choose_68 rfl (lv_at hl 3 rfl) ?_
          refine lv_iload hx hb dX5_choose_69 (lv_at hl 1 rfl) ?_
          refine wr_goI hW (wr_V (As := [.int (nI (2 * c0 + p0)), .int (nI q)]) (rest := []) C hW st_X5_221 (c_X5_hulls l D cs A _ X ad v F G_3 hS nc hnc (by omega) (2 * c0 + p0) (by omega) (nI q)) hS.1 rfl rfl ⟨rfl, rfl, Nat.le_of_ble_eq_true rfl, Nat.le_of_ble_eq_true rfl⟩ rfl hl.1 rfl (Nat.le_of_ble_eq_true rfl) dX5_choose_71 ⟨Nat.le_of_ble_eq_true rfl, Nat.le_of_ble_eq_true rfl⟩) (fun r_71 M_71 H locs h_71 hW => ?_)
          obtain ⟨G_4, hS, er_71⟩ := h_71
          refine top_eq (y := nI (rHulls F nc (2 * c0 + p0) (nI q))) er_71 ?_
          have hH_r_71 := rHulls_le F nc (2 * c0 + p0) (nI q)
          refine lv_if_ne (tgt := 81) hx hb dX5_choose_74 (by decide) (fun c_74 => ?_) (fun c_74 => ?_)
          · have c_74 := ceq_f (a := (rHulls F nc (2 * c0 + p0) (nI q))) (b := 0) c_74 (by omega) (by omega)
            refine lv_iinc (v := nI (q + 1)) (lv' := [(5, .int (nI (q + 1))), (6, .int z_50), (4, .int b), (3, .int (nI (2 * c0 + p0))), (0, .ref X), (1, .int (nI c0)), (2, .int (nI p0))]) hx hb dX5_choose_81 hl (k := 1) rfl (by exact tn_add rfl rfl) (by decide) rfl (fun ls hl => ?_)
            refine lv_goto (tgt := 14) hx hb dX5_choose_84 (by decide) ?_
            exact ih_14 ((q + 1), b, G_4, _, _, _, _) ⟨by omega, by rw [chB, ← hbe, if_neg (fun h => c_74 h.2.2)], hS, hW, lv_sub hl [0, 2, 3, 4, 5, 6] rfl⟩ (by show nq F (2 * c0 + p0) - (q + 1) < nq F (2 * c0 + p0) - q; omega)
          · have c_74 := ceq_t (a := (rHulls F nc (2 * c0 + p0) (nI q))) (b := 0) c_74 (by omega) (by omega)
            refine lv_iload hx hb dX5_choose_77 (lv_at hl 1 rfl) ?_
            refine lv_istore (lv' := [(4, .int (nI q)), (6, .int z_50), (5, .int (nI q)), (3, .int (nI (2 * c0 + p0))), (0, .ref X), (1, .int (nI c0)), (2, .int (nI p0))]) hx hb dX5_choose_79 hl (by decide) rfl (fun ls hl => ?_)
            refine lv_iinc (v := nI (q + 1)) (lv' := [(5, .int (nI (q + 1))), (4, .int (nI q)), (6, .int z_50), (3, .int (nI (2 * c0 + p0))), (0, .ref X), (1, .int (nI c0)), (2, .int (nI p0))]) hx hb dX5_choose_81 hl (k := 2) rfl (by exact tn_add rfl rfl) (by decide) rfl (fun ls hl => ?_)
            refine lv_goto (tgt := 14) hx hb dX5_choose_84 (by decide) ?_
            exact ih_14 ((q + 1), nI q, G_4, _, _, _, _) ⟨by omega, by rw [chB, ← hbe, if_pos ⟨c_54, c_64, c_74⟩], hS, hW, lv_sub hl [0, 1, 3, 4, 5, 6] rfl⟩ (by show nq F (2 * c0 + p0) - (q + 1) < nq F (2 * c0 + p0) - q; omega)
    · refine lv_iload hx hb dX5_choose_24 (lv_at hl 1 rfl) ?_
      refine lv_sipush (v := (-9005)) hx hb dX5_choose_26 (by decide) ?_
      refine lv_icmp_eq (tgt := 45) hx hb dX5_choose_29 (by decide) (fun c_29 => ?_) (fun c_29 => ?_)
      · refine lv_iconst (v := 1) hx hb dX5_choose_45 (by decide) ?_
        refine lv_goto (tgt := 50) hx hb dX5_choose_46 (by decide) ?_
        exact J_50 _ (bI_t (Or.inl c_29))
      · refine lv_iload hx hb dX5_choose_32 (lv_at hl 0 rfl) ?_
        refine ro_goI (ro_S (As := [.int (nI q)]) (rest := []) C hW.rd st_X5_215 (c_X5_badnessOf l D cs _ (nI q)) ⟨rfl, rfl, Nat.le_of_ble_eq_true rfl, Nat.le_of_ble_eq_true rfl⟩ rfl hl.1 rfl (Nat.le_of_ble_eq_true rfl) dX5_choose_34 ⟨Nat.le_of_ble_eq_true rfl, Nat.le_of_ble_eq_true rfl⟩) (fun r_34 h_34 => ?_)
        refine lv_iload hx hb dX5_choose_37 (lv_at hl 1 rfl) ?_
        refine ro_goI (ro_S (As := [.int b]) (rest := [.int r_34]) C hW.rd st_X5_215 (c_X5_badnessOf l D cs _ b) ⟨rfl, rfl, Nat.le_of_ble_eq_true rfl, Nat.le_of_ble_eq_true rfl⟩ rfl hl.1 rfl (Nat.le_of_ble_eq_true rfl) dX5_choose_39 ⟨Nat.le_of_ble_eq_true rfl, Nat.le_of_ble_eq_true rfl⟩) (fun r_39 h_39 => ?_)
        refine lv_icmp_ge (tgt := 49) hx hb dX5_choose_42 (by decide) (fun c_42 => ?_) (fun c_42 => ?_)
        · refine lv_iconst (v := 0) hx hb dX5_choose_49 (by decide) ?_
          exact J_50 _ (bI_f (by rw [h_34, h_39] at c_42; exact fun h => h.elim c_29 (fun h => h c_42)))
        · refine lv_iconst (v := 1) hx hb dX5_choose_45 (by decide) ?_
          refine lv_goto (tgt := 50) hx hb dX5_choose_46 (by decide) ?_
          exact J_50 _ (bI_t (by rw [h_34, h_39] at c_42; exact Or.inr c_42))

def tA (F : Nat → Nat → Int32) (a : Nat) : Nat → Int32
  | 0 => 0
  | n + 1 => if F 3 n = F 3 a ∧ F 4 n = F 4 a then tA F a n + (if F 5 n ≤ F 5 a then 0 else 1) else tA F a n
def tB (F : Nat → Nat → Int32) (a : Nat) : Nat → Int32
  | 0 => 0
  | n + 1 => if F 3 n = F 3 a ∧ F 4 n = F 4 a then tB F a n + (if F 5 a ≤ F 5 n then 0 else 1) else tB F a n
def rTie (F : Nat → Nat → Int32) (nn a : Nat) : Int32 := if tB F a nn ≤ tA F a nn then (if tA F a nn ≤ tB F a nn then (if F 6 a = 0 then 1 else -1) else -1) else 1
def sD (F : Nat → Nat → Int32) (a b : Nat) : Nat → Bool
  | 0 => false
  | n + 1 => sD F a b n || (decide (n = a ∨ n = b ∨ (rBefore F a n = true ∧ rBefore F n b = true)) && decide (F 6 n = 0))
theorem sD_s {F : Nat → Nat → Int32} {a b n : Nat} : sD F a b (n + 1) = true ↔ (sD F a b n = true ∨ ((n = a ∨ n = b ∨ (rBefore F a n = true ∧ rBefore F n b = true)) ∧ F 6 n = 0)) := by
  rw [sD, Bool.or_eq_true, Bool.and_eq_true, decide_eq_true_eq, decide_eq_true_eq]
def rSlur (F : Nat → Nat → Int32) (nn a b : Nat) : Int32 := if sD F a b nn = true then 1 else -1
def rMay (F : Nat → Nat → Int32) (a b la : Nat) : Bool := decide (rBefore F a b = true ∧ F 3 b - F 3 a ≤ 1 ∧ (if F 3 a = F 3 b then ¬ F 4 b - F 4 a < 12 else (¬ F 1 la - F 4 a < 12 ∧ ¬ F 4 b < 12)))
set_option maxHeartbeats 4000000 in
set_option maxRecDepth 100000 in
theorem c_X5_sideOfTie (l : Launch) (D : va_G) (cs : Nat → ClassId) (M : wM) (X : Nat) (ad : Nat → Nat) (v : Nat → Int32) (F : Nat → Nat → Int32) (G : Nat → Nat → Int64) (hS : RS cs M X ad v F G) (nn : Nat) (hnn : v 2 = nI nn) (hn60 : nn ≤ 60) (a : Nat) (ha : a < 60) : Met l yX5_sideOfTie (mw yX5_sideOfTie cX5_sideOfTie 5 (some .int)) { frames := 0, cells := 0, slots := 0, locals := 0 } (roP D cs M [.ref X, .int (nI a)]) (vp_Si (fun r => r = rTie F nn a)) 0 0 noA := by
  refine ro_met rfl (Nat.le_of_ble_eq_true rfl) ?_
  intro p e s m below meth c ls C hR hr hlk hl
  have C : kx D cs p m c cX5_sideOfTie 5 s _ RX5 := C
  have hx := C.1.1
  have hb := C.1.2.1
  have hl : lv_has ls 5 [(0, .ref X), (1, .int (nI a))] := hl
  refine lv_iconst (v := 0) hx hb dX5_sideOfTie_0 (by decide) ?_
  refine lv_istore_n (lv' := [(2, .int 0), (0, .ref X), (1, .int (nI a))]) hx hb dX5_sideOfTie_1 rfl hl (by decide) rfl (fun ls hl => ?_)
  refine lv_iconst (v := 0) hx hb dX5_sideOfTie_2 (by decide) ?_
  refine lv_istore_n (lv' := [(3, .int 0), (2, .int 0), (0, .ref X), (1, .int (nI a))]) hx hb dX5_sideOfTie_3 rfl hl (by decide) rfl (fun ls hl => ?_)
  refine lv_iconst (v := 0) hx hb dX5_sideOfTie_4 (by decide) ?_
  refine lv_istore (lv' := [(4, .int 0), (3, .int 0), (2, .int 0), (0, .ref X), (1, .int (nI a))]) hx hb dX5_sideOfTie_5 hl (by decide) rfl (fun ls hl => ?_)
  refine W.loop (σ := Nat × Int32 × Int32 × Array Slot) (fun ⟨n, x, y, ls⟩ => F0 m 7 ls []) (fun ⟨n, x, y, ls⟩ => (n ≤ nn) ∧ (x = tA F a n) ∧ (y = tB F a n) ∧ lv_has ls 5 [(4, .int (nI n)), (3, .int y), (2, .int x), (0, .ref X), (1, .int (nI a))]) (fun ⟨n, x, y, ls⟩ => nn - n) ?_ (0, 0, 0, _) ⟨by omega, rfl, rfl, lv_sub hl [0, 1, 2, 3, 4] rfl⟩ rfl
  intro ⟨n, x, y, ls⟩ ⟨hn, ex, ey, hl⟩ ih_7
  show W _ _ _ _ _ _ _ _ _ _ _ _ _ _ _ (F0 m 7 ls [])
  have hl : lv_has ls 5 [(4, .int (nI n)), (3, .int y), (2, .int x), (0, .ref X), (1, .int (nI a))] := hl
  refine lv_iload hx hb dX5_sideOfTie_7 (lv_at hl 0 rfl) ?_
  refine lv_aload_n hx hb dX5_sideOfTie_9 rfl (lv_at hl 3 rfl) ?_
  refine gf_X5_113 C hR hS.1 rfl dX5_sideOfTie_10 ?_
  refine top_eq (y := nI nn) hnn ?_
  refine lv_icmp_ge (tgt := 102) hx hb dX5_sideOfTie_13 (by decide) (fun c_13 => ?_) (fun c_13 => ?_)
  · have c_13 := cle_t (a := nn) (b := n) c_13 (by omega) (by omega)
    refine lv_iload_n hx hb dX5_sideOfTie_102 rfl (lv_at hl 2 rfl) ?_
    refine lv_iload_n hx hb dX5_sideOfTie_103 rfl (lv_at hl 1 rfl) ?_
    refine lv_icmp_ge (tgt := 111) hx hb dX5_sideOfTie_104 (by decide) (fun c_104 => ?_) (fun c_104 => ?_)
    · refine lv_iload_n hx hb dX5_sideOfTie_111 rfl (lv_at hl 2 rfl) ?_
      refine lv_iload_n hx hb dX5_sideOfTie_112 rfl (lv_at hl 1 rfl) ?_
      refine lv_icmp_le (tgt := 120) hx hb dX5_sideOfTie_113 (by decide) (fun c_113 => ?_) (fun c_113 => ?_)
      · refine lv_aload_n hx hb dX5_sideOfTie_120 rfl (lv_at hl 3 rfl) ?_
        refine gf_X5_22 C hR hS.1 rfl dX5_sideOfTie_121 ?_
        refine lv_iload_n hx hb dX5_sideOfTie_124 rfl (lv_at hl 4 rfl) ?_
        refine r_zaldN (k := a) C hR (RS.z hS 6 60 rfl rfl) (by omega) (by decide) rfl dX5_sideOfTie_125 ?_
        refine lv_if_eq (tgt := 133) hx hb dX5_sideOfTie_126 (by decide) (fun c_126 => ?_) (fun c_126 => ?_)
        · refine lv_iconst (v := 1) hx hb dX5_sideOfTie_133 (by decide) ?_
          exact ro_iret C hr hlk (by have e : n = nn := (by omega); subst e; subst ex; subst ey; simp [rTie, c_104, c_113, c_126]) dX5_sideOfTie_134
        · refine lv_iconst (v := (-1)) hx hb dX5_sideOfTie_129 (by decide) ?_
          refine lv_goto (tgt := 134) hx hb dX5_sideOfTie_130 (by decide) ?_
          exact ro_iret C hr hlk (by have e : n = nn := (by omega); subst e; subst ex; subst ey; simp [rTie, c_104, c_113, c_126]) dX5_sideOfTie_134
      · refine lv_iconst (v := (-1)) hx hb dX5_sideOfTie_116 (by decide) ?_
        refine lv_goto (tgt := 134) hx hb dX5_sideOfTie_117 (by decide) ?_
        exact ro_iret C hr hlk (by have e : n = nn := (by omega); subst e; subst ex; subst ey; simp [rTie, c_104, c_113]) dX5_sideOfTie_134
    · refine lv_iconst (v := 1) hx hb dX5_sideOfTie_107 (by decide) ?_
      refine lv_goto (tgt := 134) hx hb dX5_sideOfTie_108 (by decide) ?_
      exact ro_iret C hr hlk (by have e : n = nn := (by omega); subst e; subst ex; subst ey; simp [rTie, c_104]) dX5_sideOfTie_134
  · have c_13 := cle_f (a := nn) (b := n) c_13 (by omega) (by omega)
    refine lv_aload_n hx hb dX5_sideOfTie_16 rfl (lv_at hl 3 rfl) ?_
    refine gf_X5_13 C hR hS.1 rfl dX5_sideOfTie_17 ?_
    refine lv_iload hx hb dX5_sideOfTie_20 (lv_at hl 0 rfl) ?_
    refine r_ialdN (k := n) C hR (RS.i hS 3 60 rfl rfl) (by omega) (by decide) rfl dX5_sideOfTie_22 ?_
    refine lv_aload_n hx hb dX5_sideOfTie_23 rfl (lv_at hl 3 rfl) ?_
    refine gf_X5_13 C hR hS.1 rfl dX5_sideOfTie_24 ?_
    refine lv_iload_n hx hb dX5_sideOfTie_27 rfl (lv_at hl 4 rfl) ?_
    refine r_ialdN (k := a) C hR (RS.i hS 3 60 rfl rfl) (by omega) (by decide) rfl dX5_sideOfTie_28 ?_
    refine lv_icmp_ne (tgt := 96) hx hb dX5_sideOfTie_29 (by decide) (fun c_29 => ?_) (fun c_29 => ?_)
    · refine lv_iinc (v := nI (n + 1)) (lv' := [(4, .int (nI (n + 1))), (3, .int y), (2, .int x), (0, .ref X), (1, .int (nI a))]) hx hb dX5_sideOfTie_96 hl (k := 0) rfl (by exact tn_add rfl rfl) (by decide) rfl (fun ls hl => ?_)
      refine lv_goto (tgt := 7) hx hb dX5_sideOfTie_99 (by decide) ?_
      exact ih_7 ((n + 1), x, y, _) ⟨by omega, by rw [tA, if_neg (fun h => c_29 h.1), ← ex], by rw [tB, if_neg (fun h => c_29 h.1), ← ey], lv_sub hl [0, 1, 2, 3, 4] rfl⟩ (by show nn - (n + 1) < nn - n; omega)
    · refine lv_aload_n hx hb dX5_sideOfTie_32 rfl (lv_at hl 3 rfl) ?_
      refine gf_X5_16 C hR hS.1 rfl dX5_sideOfTie_33 ?_
      refine lv_iload hx hb dX5_sideOfTie_36 (lv_at hl 0 rfl) ?_
      refine r_ialdN (k := n) C hR (RS.i hS 4 60 rfl rfl) (by omega) (by decide) rfl dX5_sideOfTie_38 ?_
      refine lv_aload_n hx hb dX5_sideOfTie_39 rfl (lv_at hl 3 rfl) ?_
      refine gf_X5_16 C hR hS.1 rfl dX5_sideOfTie_40 ?_
      refine lv_iload_n hx hb dX5_sideOfTie_43 rfl (lv_at hl 4 rfl) ?_
      refine r_ialdN (k := a) C hR (RS.i hS 4 60 rfl rfl) (by omega) (by decide) rfl dX5_sideOfTie_44 ?_
      refine lv_icmp_ne (tgt := 96) hx hb dX5_sideOfTie_45 (by decide) (fun c_45 => ?_) (fun c_45 => ?_)
      · refine lv_iinc (v := nI (n + 1)) (lv' := [(4, .int (nI (n + 1))), (3, .int y), (2, .int x), (0, .ref X), (1, .int (nI a))]) hx hb dX5_sideOfTie_96 hl (k := 0) rfl (by exact tn_add rfl rfl) (by decide) rfl (fun ls hl => ?_)
        refine lv_goto (tgt := 7) hx hb dX5_sideOfTie_99 (by decide) ?_
        exact ih_7 ((n + 1), x, y, _) ⟨by omega, by rw [tA, if_neg (fun h => c_45 h.2), ← ex], by rw [tB, if_neg (fun h => c_45 h.2), ← ey], lv_sub hl [0, 1, 2, 3, 4] rfl⟩ (by show nn - (n + 1) < nn - n; omega)
      · refine lv_iload_n hx hb dX5_sideOfTie_48 rfl (lv_at hl 2 rfl) ?_
        refine W.cut (fun z => z = if F 5 n ≤ F 5 a then 0 else 1) (fun z => F0 m 70 ls (.int z :: [.int x])) (fun z_70 hz_70 => ?_) (fun J_70 => ?_)
        · refine lv_iadd hx hb dX5_sideOfTie_70 ?_
          refine lv_istore_n (lv' := [(2, .int (x + z_70)), (4, .int (nI n)), (3, .int y), (0, .ref X), (1, .int (nI a))]) hx hb dX5_sideOfTie_71 rfl hl (by decide) rfl (fun ls hl => ?_)
          refine lv_iload_n hx hb dX5_sideOfTie_72 rfl (lv_at hl 2 rfl) ?_
          refine W.cut (fun z => z = if F 5 a ≤ F 5 n then 0 else 1) (fun z => F0 m 94 ls (.int z :: [.int y])) (fun z_94 hz_94 => ?_) (fun J_94 => ?_)
          · refine lv_iadd hx hb dX5_sideOfTie_94 ?_
            refine lv_istore_n (lv' := [(3, .int (y + z_94)), (2, .int (x + z_70)), (4, .int (nI n)), (0, .ref X), (1, .int (nI a))]) hx hb dX5_sideOfTie_95 rfl hl (by decide) rfl (fun ls hl => ?_)
            refine lv_iinc (v := nI (n + 1)) (lv' := [(4, .int (nI (n + 1))), (3, .int (y + z_94)), (2, .int (x + z_70)), (0, .ref X), (1, .int (nI a))]) hx hb dX5_sideOfTie_96 hl (k := 2) rfl (by exact tn_add rfl rfl) (by decide) rfl (fun ls hl => ?_)
            refine lv_goto (tgt := 7) hx hb dX5_sideOfTie_99 (by decide) ?_
            exact ih_7 ((n + 1), x + z_70, y + z_94, _) ⟨by omega, by rw [tA, if_pos ⟨c_29, c_45⟩, ← ex, ← hz_70], by rw [tB, if_pos ⟨c_29, c_45⟩, ← ey, ← hz_94], lv_sub hl [0, 1, 2, 3, 4] rfl⟩ (by show nn - (n + 1) < nn - n; omega)
          · refine lv_aload_n hx hb dX5_sideOfTie_73 rfl (lv_at hl 3 rfl) ?_
            refine gf_X5_19 C hR hS.1 rfl dX5_sideOfTie_74 ?_
            refine lv_iload hx hb dX5_sideOfTie_77 (lv_at hl 1 rfl) ?_
            refine r_ialdN (k := n) C hR (RS.i hS 5 60 rfl rfl) (by omega) (by decide) rfl dX5_sideOfTie_79 ?_
            refine lv_aload_n hx hb dX5_sideOfTie_80 rfl (lv_at hl 3 rfl) ?_
            refine gf_X5_19 C hR hS.1 rfl dX5_sideOfTie_81 ?_
            refine lv_iload_n hx hb dX5_sideOfTie_84 rfl (lv_at hl 4 rfl) ?_
            refine r_ialdN (k := a) C hR (RS.i hS 5 60 rfl rfl) (by omega) (by decide) rfl dX5_sideOfTie_85 ?_
            refine lv_icmp_ge (tgt := 93) hx hb dX5_sideOfTie_86 (by decide) (fun c_86 => ?_) (fun c_86 => ?_)
            · refine lv_iconst (v := 0) hx hb dX5_sideOfTie_93 (by decide) ?_
              exact J_94 _ (by simp [c_86])
            · refine lv_iconst (v := 1) hx hb dX5_sideOfTie_89 (by decide) ?_
              refine lv_goto (tgt := 94) hx hb dX5_sideOfTie_90 (by decide) ?_
              exact J_94 _ (by simp [c_86])
        · refine lv_aload_n hx hb dX5_sideOfTie_49 rfl (lv_at hl 3 rfl) ?_
          refine gf_X5_19 C hR hS.1 rfl dX5_sideOfTie_50 ?_
          refine lv_iload hx hb dX5_sideOfTie_53 (lv_at hl 0 rfl) ?_
          refine r_ialdN (k := n) C hR (RS.i hS 5 60 rfl rfl) (by omega) (by decide) rfl dX5_sideOfTie_55 ?_
          refine lv_aload_n hx hb dX5_sideOfTie_56 rfl (lv_at hl 3 rfl) ?_
          refine gf_X5_19 C hR hS.1 rfl dX5_sideOfTie_57 ?_
          refine lv_iload_n hx hb dX5_sideOfTie_60 rfl (lv_at hl 4 rfl) ?_
          refine r_ialdN (k := a) C hR (RS.i hS 5 60 rfl rfl) (by omega) (by decide) rfl dX5_sideOfTie_61 ?_
          refine lv_icmp_le (tgt := 69) hx hb dX5_sideOfTie_62 (by decide) (fun c_62 => ?_) (fun c_62 => ?_)
          · refine lv_iconst (v := 0) hx hb dX5_sideOfTie_69 (by decide) ?_
            exact J_70 _ (by simp [c_62])
          · refine lv_iconst (v := 1) hx hb dX5_sideOfTie_65 (by decide) ?_
            refine lv_goto (tgt := 70) hx hb dX5_sideOfTie_66 (by decide) ?_
            exact J_70 _ (by simp [c_62])

set_option maxHeartbeats 4000000 in
set_option maxRecDepth 100000 in
theorem c_X5_sideOfSlur (l : Launch) (D : va_G) (cs : Nat → ClassId) (M : wM) (X : Nat) (ad : Nat → Nat) (v : Nat → Int32) (F : Nat → Nat → Int32) (G : Nat → Nat → Int64) (hS : RS cs M X ad v F G) (nn : Nat) (hnn : v 2 = nI nn) (hn60 : nn ≤ 60) (a b : Nat) (ha : a < 60) (hb0 : b < 60) : Met l yX5_sideOfSlur (mw yX5_sideOfSlur cX5_sideOfSlur 6 (some .int)) { frames := 1, cells := 0, slots := 0, locals := 22 } (roP D cs M [.ref X, .int (nI a), .int (nI b)]) (vp_Si (fun r => r = rSlur F nn a b)) 0 0 noA := by
  refine ro_met rfl (Nat.le_of_ble_eq_true rfl) ?_
  intro p e s m below meth c ls C hR hr hlk hl
  have C : kx D cs p m c cX5_sideOfSlur 6 s _ RX5 := C
  have hx := C.1.1
  have hb := C.1.2.1
  have hl : lv_has ls 6 [(0, .ref X), (1, .int (nI a)), (2, .int (nI b))] := hl
  refine lv_iconst (v := 0) hx hb dX5_sideOfSlur_0 (by decide) ?_
  refine lv_istore_n (lv' := [(3, .int 0), (0, .ref X), (1, .int (nI a)), (2, .int (nI b))]) hx hb dX5_sideOfSlur_1 rfl hl (by decide) rfl (fun ls hl => ?_)
  refine lv_iconst (v := 0) hx hb dX5_sideOfSlur_2 (by decide) ?_
  refine lv_istore (lv' := [(4, .int 0), (3, .int 0), (0, .ref X), (1, .int (nI a)), (2, .int (nI b))]) hx hb dX5_sideOfSlur_3 hl (by decide) rfl (fun ls hl => ?_)
  refine W.loop (σ := Nat × Int32 × Array Slot) (fun ⟨n, z, ls⟩ => F0 m 5 ls []) (fun ⟨n, z, ls⟩ => (n ≤ nn) ∧ (z = bI (sD F a b n = true)) ∧ lv_has ls 6 [(4, .int (nI n)), (3, .int z), (0, .ref X), (1, .int (nI a)), (2, .int (nI b))]) (fun ⟨n, z, ls⟩ => nn - n) ?_ (0, 0, _) ⟨by omega, bI_f (by simp [sD]), lv_sub hl [0, 1, 2, 3, 4] rfl⟩ rfl
  intro ⟨n, z, ls⟩ ⟨hn, hz, hl⟩ ih_5
  show W _ _ _ _ _ _ _ _ _ _ _ _ _ _ _ (F0 m 5 ls [])
  have hl : lv_has ls 6 [(4, .int (nI n)), (3, .int z), (0, .ref X), (1, .int (nI a)), (2, .int (nI b))] := hl
  refine lv_iload hx hb dX5_sideOfSlur_5 (lv_at hl 0 rfl) ?_
  refine lv_aload_n hx hb dX5_sideOfSlur_7 rfl (lv_at hl 2 rfl) ?_
  refine gf_X5_113 C hR hS.1 rfl dX5_sideOfSlur_8 ?_
  refine top_eq (y := nI nn) hnn ?_
  refine lv_icmp_ge (tgt := 84) hx hb dX5_sideOfSlur_11 (by decide) (fun c_11 => ?_) (fun c_11 => ?_)
  · have c_11 := cle_t (a := nn) (b := n) c_11 (by omega) (by omega)
    refine lv_iload_n hx hb dX5_sideOfSlur_84 rfl (lv_at hl 1 rfl) ?_
    refine lv_if_eq (tgt := 92) hx hb dX5_sideOfSlur_85 (by decide) (fun c_85 => ?_) (fun c_85 => ?_)
    · have c_85 : ¬ (sD F a b n = true) := bz0 hz c_85
      refine lv_iconst (v := (-1)) hx hb dX5_sideOfSlur_92 (by decide) ?_
      exact ro_iret C hr hlk (by have e : n = nn := (by omega); subst e; simp [rSlur, c_85]) dX5_sideOfSlur_93
    · have c_85 : sD F a b n = true := bz1 hz c_85
      refine lv_iconst (v := 1) hx hb dX5_sideOfSlur_88 (by decide) ?_
      refine lv_goto (tgt := 93) hx hb dX5_sideOfSlur_89 (by decide) ?_
      exact ro_iret C hr hlk (by have e : n = nn := (by omega); subst e; simp [rSlur, c_85]) dX5_sideOfSlur_93
  · have c_11 := cle_f (a := nn) (b := n) c_11 (by omega) (by omega)
    refine W.cut (fun z => z = bI (n = a ∨ n = b ∨ (rBefore F a n = true ∧ rBefore F n b = true))) (fun z => F0 m 51 ls (.int z :: [])) (fun z_51 hz_51 => ?_) (fun J_51 => ?_)
    · refine lv_istore (lv' := [(5, .int z_51), (4, .int (nI n)), (3, .int z), (0, .ref X), (1, .int (nI a)), (2, .int (nI b))]) hx hb dX5_sideOfSlur_51 hl (by decide) rfl (fun ls hl => ?_)
      refine W.cut (fun z => z = bI (sD F a b (n + 1) = true)) (fun z => F0 m 77 ls (.int z :: [])) (fun z_77 hz_77 => ?_) (fun J_77 => ?_)
      · refine lv_istore_n (lv' := [(3, .int z_77), (5, .int z_51), (4, .int (nI n)), (0, .ref X), (1, .int (nI a)), (2, .int (nI b))]) hx hb dX5_sideOfSlur_77 rfl hl (by decide) rfl (fun ls hl => ?_)
        refine lv_iinc (v := nI (n + 1)) (lv' := [(4, .int (nI (n + 1))), (3, .int z_77), (5, .int z_51), (0, .ref X), (1, .int (nI a)), (2, .int (nI b))]) hx hb dX5_sideOfSlur_78 hl (k := 2) rfl (by exact tn_add rfl rfl) (by decide) rfl (fun ls hl => ?_)
        refine lv_goto (tgt := 5) hx hb dX5_sideOfSlur_81 (by decide) ?_
        exact ih_5 ((n + 1), z_77, _) ⟨by omega, hz_77, lv_sub hl [0, 1, 3, 4, 5] rfl⟩ (by show nn - (n + 1) < nn - n; omega)
      · refine lv_iload_n hx hb dX5_sideOfSlur_53 rfl (lv_at hl 2 rfl) ?_
        refine lv_if_ne (tgt := 72) hx hb dX5_sideOfSlur_54 (by decide) (fun c_54 => ?_) (fun c_54 => ?_)
        · have c_54 : sD F a b n = true := bz1 hz c_54
          refine lv_iconst (v := 1) hx hb dX5_sideOfSlur_72 (by decide) ?_
          refine lv_goto (tgt := 77) hx hb dX5_sideOfSlur_73 (by decide) ?_
          exact J_77 _ (bI_t (sD_s.mpr (Or.inl c_54)))
        · have c_54 : ¬ (sD F a b n = true) := bz0 hz c_54
          refine lv_iload hx hb dX5_sideOfSlur_57 (lv_at hl 0 rfl) ?_
          refine lv_if_eq (tgt := 76) hx hb dX5_sideOfSlur_59 (by decide) (fun c_59 => ?_) (fun c_59 => ?_)
          · have c_59 : ¬ (n = a ∨ n = b ∨ (rBefore F a n = true ∧ rBefore F n b = true)) := bz0 hz_51 c_59
            refine lv_iconst (v := 0) hx hb dX5_sideOfSlur_76 (by decide) ?_
            exact J_77 _ (bI_f (fun h => (sD_s.mp h).elim c_54 (fun h => c_59 h.1)))
          · have c_59 : n = a ∨ n = b ∨ (rBefore F a n = true ∧ rBefore F n b = true) := bz1 hz_51 c_59
            refine lv_aload_n hx hb dX5_sideOfSlur_62 rfl (lv_at hl 3 rfl) ?_
            refine gf_X5_22 C hR hS.1 rfl dX5_sideOfSlur_63 ?_
            refine lv_iload hx hb dX5_sideOfSlur_66 (lv_at hl 1 rfl) ?_
            refine r_zaldN (k := n) C hR (RS.z hS 6 60 rfl rfl) (by omega) (by decide) rfl dX5_sideOfSlur_68 ?_
            refine lv_if_ne (tgt := 76) hx hb dX5_sideOfSlur_69 (by decide) (fun c_69 => ?_) (fun c_69 => ?_)
            · refine lv_iconst (v := 0) hx hb dX5_sideOfSlur_76 (by decide) ?_
              exact J_77 _ (bI_f (fun h => (sD_s.mp h).elim c_54 (fun h => c_69 h.2)))
            · refine lv_iconst (v := 1) hx hb dX5_sideOfSlur_72 (by decide) ?_
              refine lv_goto (tgt := 77) hx hb dX5_sideOfSlur_73 (by decide) ?_
              exact J_77 _ (bI_t (sD_s.mpr (Or.inr ⟨c_59, c_69⟩)))
    · refine lv_iload hx hb dX5_sideOfSlur_14 (lv_at hl 0 rfl) ?_
      refine lv_iload_n hx hb dX5_sideOfSlur_16 rfl (lv_at hl 3 rfl) ?_
      refine lv_icmp_eq (tgt := 46) hx hb dX5_sideOfSlur_17 (by decide) (fun c_17 => ?_) (fun c_17 => ?_)
      · have c_17 := ceq_t (a := n) (b := a) c_17 (by omega) (by omega)
        refine lv_iconst (v := 1) hx hb dX5_sideOfSlur_46 (by decide) ?_
        refine lv_goto (tgt := 51) hx hb dX5_sideOfSlur_47 (by decide) ?_
        exact J_51 _ (bI_t (Or.inl c_17))
      · have c_17 := ceq_f (a := n) (b := a) c_17 (by omega) (by omega)
        refine lv_iload hx hb dX5_sideOfSlur_20 (lv_at hl 0 rfl) ?_
        refine lv_iload_n hx hb dX5_sideOfSlur_22 rfl (lv_at hl 4 rfl) ?_
        refine lv_icmp_eq (tgt := 46) hx hb dX5_sideOfSlur_23 (by decide) (fun c_23 => ?_) (fun c_23 => ?_)
        · have c_23 := ceq_t (a := n) (b := b) c_23 (by omega) (by omega)
          refine lv_iconst (v := 1) hx hb dX5_sideOfSlur_46 (by decide) ?_
          refine lv_goto (tgt := 51) hx hb dX5_sideOfSlur_47 (by decide) ?_
          exact J_51 _ (bI_t (Or.inr (Or.inl c_23)))
        · have c_23 := ceq_f (a := n) (b := b) c_23 (by omega) (by omega)
          refine lv_aload_n hx hb dX5_sideOfSlur_26 rfl (lv_at hl 2 rfl) ?_
          refine lv_iload_n hx hb dX5_sideOfSlur_27 rfl (lv_at hl 3 rfl) ?_
          refine lv_iload hx hb dX5_sideOfSlur_28 (lv_at hl 0 rfl) ?_
          refine ro_goI (ro_V (As := [.int (nI a), .int (nI n)]) (rest := []) C hR st_X5_126 (c_X5_isBefore l D cs _ X ad v F G hS a n (by omega) (by omega)) hS.1 rfl rfl ⟨rfl, rfl, Nat.le_of_ble_eq_true rfl, Nat.le_of_ble_eq_true rfl⟩ rfl hl.1 rfl (Nat.le_of_ble_eq_true rfl) dX5_sideOfSlur_30 ⟨Nat.le_of_ble_eq_true rfl, Nat.le_of_ble_eq_true rfl⟩) (fun r_30 h_30 => ?_)
          refine lv_if_eq (tgt := 50) hx hb dX5_sideOfSlur_33 (by decide) (fun c_33 => ?_) (fun c_33 => ?_)
          · have c_33 : ¬ (rBefore F a n = true) := bz0 h_30 c_33
            refine lv_iconst (v := 0) hx hb dX5_sideOfSlur_50 (by decide) ?_
            exact J_51 _ (bI_f (fun h => h.elim c_17 (fun h => h.elim c_23 (fun h => c_33 h.1))))
          · have c_33 : rBefore F a n = true := bz1 h_30 c_33
            refine lv_aload_n hx hb dX5_sideOfSlur_36 rfl (lv_at hl 2 rfl) ?_
            refine lv_iload hx hb dX5_sideOfSlur_37 (lv_at hl 0 rfl) ?_
            refine lv_iload_n hx hb dX5_sideOfSlur_39 rfl (lv_at hl 4 rfl) ?_
            refine ro_goI (ro_V (As := [.int (nI n), .int (nI b)]) (rest := []) C hR st_X5_126 (c_X5_isBefore l D cs _ X ad v F G hS n b (by omega) (by omega)) hS.1 rfl rfl ⟨rfl, rfl, Nat.le_of_ble_eq_true rfl, Nat.le_of_ble_eq_true rfl⟩ rfl hl.1 rfl (Nat.le_of_ble_eq_true rfl) dX5_sideOfSlur_40 ⟨Nat.le_of_ble_eq_true rfl, Nat.le_of_ble_eq_true rfl⟩) (fun r_40 h_40 => ?_)
            refine lv_if_eq (tgt := 50) hx hb dX5_sideOfSlur_43 (by decide) (fun c_43 => ?_) (fun c_43 => ?_)
            · have c_43 : ¬ (rBefore F n b = true) := bz0 h_40 c_43
              refine lv_iconst (v := 0) hx hb dX5_sideOfSlur_50 (by decide) ?_
              exact J_51 _ (bI_f (fun h => h.elim c_17 (fun h => h.elim c_23 (fun h => c_43 h.2))))
            · have c_43 : rBefore F n b = true := bz1 h_40 c_43
              refine lv_iconst (v := 1) hx hb dX5_sideOfSlur_46 (by decide) ?_
              refine lv_goto (tgt := 51) hx hb dX5_sideOfSlur_47 (by decide) ?_
              exact J_51 _ (bI_t (Or.inr (Or.inr ⟨c_33, c_43⟩)))

set_option maxHeartbeats 4000000 in
set_option maxRecDepth 100000 in
theorem c_X5_mayBe (l : Launch) (D : va_G) (cs : Nat → ClassId) (M : wM) (X : Nat) (ad : Nat → Nat) (v : Nat → Int32) (F : Nat → Nat → Int32) (G : Nat → Nat → Int64) (hS : RS cs M X ad v F G) (a b : Nat) (ha : a < 60) (hb0 : b < 60) (la : Nat) (hla : F 3 a = nI la) (hl4 : la < 4) : Met l yX5_mayBe (mw yX5_mayBe cX5_mayBe 3 (some .boolean)) { frames := 1, cells := 0, slots := 0, locals := 22 } (roP D cs M [.ref X, .int (nI a), .int (nI b)]) (vp_Si (fun r => r = bI (rMay F a b la = true))) 0 0 noA := by
  refine ro_met rfl (Nat.le_of_ble_eq_true rfl) ?_
  intro p e s m below meth c ls C hR hr hlk hl
  have C : kx D cs p m c cX5_mayBe 3 s _ RX5 := C
  have hx := C.1.1
  have hb := C.1.2.1
  have hl : lv_has ls 3 [(0, .ref X), (1, .int (nI a)), (2, .int (nI b))] := hl
  refine lv_aload_n hx hb dX5_mayBe_0 rfl (lv_at hl 0 rfl) ?_
  refine lv_iload_n hx hb dX5_mayBe_1 rfl (lv_at hl 1 rfl) ?_
  refine lv_iload_n hx hb dX5_mayBe_2 rfl (lv_at hl 2 rfl) ?_
  refine ro_goI (ro_V (As := [.int (nI a), .int (nI b)]) (rest := []) C hR st_X5_126 (c_X5_isBefore l D cs _ X ad v F G hS a b (by omega) (by omega)) hS.1 rfl rfl ⟨rfl, rfl, Nat.le_of_ble_eq_true rfl, Nat.le_of_ble_eq_true rfl⟩ rfl hl.1 rfl (Nat.le_of_ble_eq_true rfl) dX5_mayBe_3 ⟨Nat.le_of_ble_eq_true rfl, Nat.le_of_ble_eq_true rfl⟩) (fun r_3 h_3 => ?_)
  refine lv_if_eq (tgt := 26) hx hb dX5_mayBe_6 (by decide) (fun c_6 => ?_) (fun c_6 => ?_)
  · have c_6 : ¬ (rBefore F a b = true) := bz0 h_3 c_6
    refine lv_iconst (v := 0) hx hb dX5_mayBe_26 (by decide) ?_
    exact ro_zret C hr hlk rfl (bI_f (by simp [rMay, c_6])) dX5_mayBe_27
  · have c_6 : rBefore F a b = true := bz1 h_3 c_6
    refine lv_aload_n hx hb dX5_mayBe_9 rfl (lv_at hl 0 rfl) ?_
    refine gf_X5_13 C hR hS.1 rfl dX5_mayBe_10 ?_
    refine lv_iload_n hx hb dX5_mayBe_13 rfl (lv_at hl 2 rfl) ?_
    refine r_ialdN (k := b) C hR (RS.i hS 3 60 rfl rfl) (by omega) (by decide) rfl dX5_mayBe_14 ?_
    refine lv_aload_n hx hb dX5_mayBe_15 rfl (lv_at hl 0 rfl) ?_
    refine gf_X5_13 C hR hS.1 rfl dX5_mayBe_16 ?_
    refine lv_iload_n hx hb dX5_mayBe_19 rfl (lv_at hl 1 rfl) ?_
    refine r_ialdN (k := a) C hR (RS.i hS 3 60 rfl rfl) (by omega) (by decide) rfl dX5_mayBe_20 ?_
    refine lv_isub hx hb dX5_mayBe_21 ?_
    refine lv_iconst (v := 1) hx hb dX5_mayBe_22 (by decide) ?_
    refine lv_icmp_le (tgt := 28) hx hb dX5_mayBe_23 (by decide) (fun c_23 => ?_) (fun c_23 => ?_)
    · refine lv_aload_n hx hb dX5_mayBe_28 rfl (lv_at hl 0 rfl) ?_
      refine gf_X5_13 C hR hS.1 rfl dX5_mayBe_29 ?_
      refine lv_iload_n hx hb dX5_mayBe_32 rfl (lv_at hl 1 rfl) ?_
      refine r_ialdN (k := a) C hR (RS.i hS 3 60 rfl rfl) (by omega) (by decide) rfl dX5_mayBe_33 ?_
      refine lv_aload_n hx hb dX5_mayBe_34 rfl (lv_at hl 0 rfl) ?_
      refine gf_X5_13 C hR hS.1 rfl dX5_mayBe_35 ?_
      refine lv_iload_n hx hb dX5_mayBe_38 rfl (lv_at hl 2 rfl) ?_
      refine r_ialdN (k := b) C hR (RS.i hS 3 60 rfl rfl) (by omega) (by decide) rfl dX5_mayBe_39 ?_
      refine lv_icmp_ne (tgt := 67) hx hb dX5_mayBe_40 (by decide) (fun c_40 => ?_) (fun c_40 => ?_)
      · refine lv_aload_n hx hb dX5_mayBe_67 rfl (lv_at hl 0 rfl) ?_
        refine gf_X5_7 C hR hS.1 rfl dX5_mayBe_68 ?_
        refine lv_aload_n hx hb dX5_mayBe_71 rfl (lv_at hl 0 rfl) ?_
        refine gf_X5_13 C hR hS.1 rfl dX5_mayBe_72 ?_
        refine lv_iload_n hx hb dX5_mayBe_75 rfl (lv_at hl 1 rfl) ?_
        refine r_ialdN (k := a) C hR (RS.i hS 3 60 rfl rfl) (by omega) (by decide) rfl dX5_mayBe_76 ?_
        refine top_eq (y := nI la) hla ?_
        refine r_ialdN (k := la) C hR (RS.i hS 1 4 rfl rfl) (by omega) (by decide) rfl dX5_mayBe_77 ?_
        refine lv_aload_n hx hb dX5_mayBe_78 rfl (lv_at hl 0 rfl) ?_
        refine gf_X5_16 C hR hS.1 rfl dX5_mayBe_79 ?_
        refine lv_iload_n hx hb dX5_mayBe_82 rfl (lv_at hl 1 rfl) ?_
        refine r_ialdN (k := a) C hR (RS.i hS 4 60 rfl rfl) (by omega) (by decide) rfl dX5_mayBe_83 ?_
        refine lv_isub hx hb dX5_mayBe_84 ?_
        refine lv_bipush (v := 12) hx hb dX5_mayBe_85 (by decide) ?_
        refine lv_icmp_lt (tgt := 105) hx hb dX5_mayBe_87 (by decide) (fun c_87 => ?_) (fun c_87 => ?_)
        · refine lv_iconst (v := 0) hx hb dX5_mayBe_105 (by decide) ?_
          exact ro_zret C hr hlk rfl (bI_f (by simp [rMay, c_6, c_23, c_40, c_87])) dX5_mayBe_106
        · refine lv_aload_n hx hb dX5_mayBe_90 rfl (lv_at hl 0 rfl) ?_
          refine gf_X5_16 C hR hS.1 rfl dX5_mayBe_91 ?_
          refine lv_iload_n hx hb dX5_mayBe_94 rfl (lv_at hl 2 rfl) ?_
          refine r_ialdN (k := b) C hR (RS.i hS 4 60 rfl rfl) (by omega) (by decide) rfl dX5_mayBe_95 ?_
          refine lv_bipush (v := 12) hx hb dX5_mayBe_96 (by decide) ?_
          refine lv_icmp_lt (tgt := 105) hx hb dX5_mayBe_98 (by decide) (fun c_98 => ?_) (fun c_98 => ?_)
          · refine lv_iconst (v := 0) hx hb dX5_mayBe_105 (by decide) ?_
            exact ro_zret C hr hlk rfl (bI_f (by simp [rMay, c_6, c_23, c_40, c_87, c_98])) dX5_mayBe_106
          · refine lv_iconst (v := 1) hx hb dX5_mayBe_101 (by decide) ?_
            refine lv_goto (tgt := 106) hx hb dX5_mayBe_102 (by decide) ?_
            exact ro_zret C hr hlk rfl (bI_t (by simp [rMay, c_6, c_23, c_40, c_87, c_98])) dX5_mayBe_106
      · refine lv_aload_n hx hb dX5_mayBe_43 rfl (lv_at hl 0 rfl) ?_
        refine gf_X5_16 C hR hS.1 rfl dX5_mayBe_44 ?_
        refine lv_iload_n hx hb dX5_mayBe_47 rfl (lv_at hl 2 rfl) ?_
        refine r_ialdN (k := b) C hR (RS.i hS 4 60 rfl rfl) (by omega) (by decide) rfl dX5_mayBe_48 ?_
        refine lv_aload_n hx hb dX5_mayBe_49 rfl (lv_at hl 0 rfl) ?_
        refine gf_X5_16 C hR hS.1 rfl dX5_mayBe_50 ?_
        refine lv_iload_n hx hb dX5_mayBe_53 rfl (lv_at hl 1 rfl) ?_
        refine r_ialdN (k := a) C hR (RS.i hS 4 60 rfl rfl) (by omega) (by decide) rfl dX5_mayBe_54 ?_
        refine lv_isub hx hb dX5_mayBe_55 ?_
        refine lv_bipush (v := 12) hx hb dX5_mayBe_56 (by decide) ?_
        refine lv_icmp_lt (tgt := 65) hx hb dX5_mayBe_58 (by decide) (fun c_58 => ?_) (fun c_58 => ?_)
        · refine lv_iconst (v := 0) hx hb dX5_mayBe_65 (by decide) ?_
          exact ro_zret C hr hlk rfl (bI_f (by simp [rMay, c_6, c_23, c_40, c_58])) dX5_mayBe_66
        · refine lv_iconst (v := 1) hx hb dX5_mayBe_61 (by decide) ?_
          refine lv_goto (tgt := 66) hx hb dX5_mayBe_62 (by decide) ?_
          exact ro_zret C hr hlk rfl (bI_t (by simp [rMay, c_6, c_23, c_40, c_58])) dX5_mayBe_66
    · refine lv_iconst (v := 0) hx hb dX5_mayBe_26 (by decide) ?_
      exact ro_zret C hr hlk rfl (bI_f (by simp [rMay, c_6, c_23])) dX5_mayBe_27


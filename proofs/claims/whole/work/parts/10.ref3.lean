def rCr0 (s t u w : Int64) (o1 o2 o3 o4 : Bool) : Bool := decide (¬ 0 ≤ s * t ∧ ¬ 0 ≤ u * w) || (decide (s = 0) && o1) || (decide (t = 0) && o2) || (decide (u = 0) && o3) || (decide (w = 0) && o4)
def rCr (G : Nat → Nat → Int64) (i j k n : Nat) : Bool := rCr0 (rTurn (G 32 i) (G 33 i) (G 32 j) (G 33 j) (G 34 k) (G 35 k)) (rTurn (G 32 i) (G 33 i) (G 32 j) (G 33 j) (G 34 n) (G 35 n)) (rTurn (G 34 k) (G 35 k) (G 34 n) (G 35 n) (G 32 i) (G 33 i)) (rTurn (G 34 k) (G 35 k) (G 34 n) (G 35 n) (G 32 j) (G 33 j)) (rOn (G 32 i) (G 33 i) (G 32 j) (G 33 j) (G 34 k) (G 35 k)) (rOn (G 32 i) (G 33 i) (G 32 j) (G 33 j) (G 34 n) (G 35 n)) (rOn (G 34 k) (G 35 k) (G 34 n) (G 35 n) (G 32 i) (G 33 i)) (rOn (G 34 k) (G 35 k) (G 34 n) (G 35 n) (G 32 j) (G 33 j))
set_option maxHeartbeats 4000000 in
set_option maxRecDepth 100000 in
theorem c_X5_cross (l : Launch) (D : va_G) (cs : Nat → ClassId) (M : wM) (X : Nat) (ad : Nat → Nat) (v : Nat → Int32) (F : Nat → Nat → Int32) (G : Nat → Nat → Int64) (hS : RS cs M X ad v F G) (i j k n : Nat) (hi : i < 4) (hj : j < 4) (hk : k < 4) (hn : n < 4) : Met l yX5_cross (mw yX5_cross cX5_cross 13 (some .boolean)) { frames := 2, cells := 0, slots := 0, locals := 56 } (roP D cs M [.ref X, .int (nI i), .int (nI j), .int (nI k), .int (nI n)]) (vp_Si (fun r => r = bI (rCr G i j k n = true))) 0 0 noA := by
  refine ro_met rfl (Nat.le_of_ble_eq_true rfl) ?_
  intro p e s m below meth c ls C hR hr hlk hl
  have C : kx D cs p m c cX5_cross 13 s _ RX5 := C
  have hx := C.1.1
  have hb := C.1.2.1
  have hl : lv_has ls 13 [(0, .ref X), (1, .int (nI i)), (2, .int (nI j)), (3, .int (nI k)), (4, .int (nI n))] := hl
  refine lv_aload_n hx hb dX5_cross_0 rfl (lv_at hl 0 rfl) ?_
  refine gf_X5_92 C hR hS.1 rfl dX5_cross_1 ?_
  refine lv_iload_n hx hb dX5_cross_4 rfl (lv_at hl 1 rfl) ?_
  refine r_laldN (k := i) C hR (RS.j hS 32 4 rfl rfl) (by omega) (by decide) rfl dX5_cross_5 ?_
  refine lv_aload_n hx hb dX5_cross_6 rfl (lv_at hl 0 rfl) ?_
  refine gf_X5_96 C hR hS.1 rfl dX5_cross_7 ?_
  refine lv_iload_n hx hb dX5_cross_10 rfl (lv_at hl 1 rfl) ?_
  refine r_laldN (k := i) C hR (RS.j hS 33 4 rfl rfl) (by omega) (by decide) rfl dX5_cross_11 ?_
  refine lv_aload_n hx hb dX5_cross_12 rfl (lv_at hl 0 rfl) ?_
  refine gf_X5_92 C hR hS.1 rfl dX5_cross_13 ?_
  refine lv_iload_n hx hb dX5_cross_16 rfl (lv_at hl 2 rfl) ?_
  refine r_laldN (k := j) C hR (RS.j hS 32 4 rfl rfl) (by omega) (by decide) rfl dX5_cross_17 ?_
  refine lv_aload_n hx hb dX5_cross_18 rfl (lv_at hl 0 rfl) ?_
  refine gf_X5_96 C hR hS.1 rfl dX5_cross_19 ?_
  refine lv_iload_n hx hb dX5_cross_22 rfl (lv_at hl 2 rfl) ?_
  refine r_laldN (k := j) C hR (RS.j hS 33 4 rfl rfl) (by omega) (by decide) rfl dX5_cross_23 ?_
  refine lv_aload_n hx hb dX5_cross_24 rfl (lv_at hl 0 rfl) ?_
  refine gf_X5_99 C hR hS.1 rfl dX5_cross_25 ?_
  refine lv_iload_n hx hb dX5_cross_28 rfl (lv_at hl 3 rfl) ?_
  refine r_laldN (k := k) C hR (RS.j hS 34 4 rfl rfl) (by omega) (by decide) rfl dX5_cross_29 ?_
  refine lv_aload_n hx hb dX5_cross_30 rfl (lv_at hl 0 rfl) ?_
  refine gf_X5_102 C hR hS.1 rfl dX5_cross_31 ?_
  refine lv_iload_n hx hb dX5_cross_34 rfl (lv_at hl 3 rfl) ?_
  refine r_laldN (k := k) C hR (RS.j hS 35 4 rfl rfl) (by omega) (by decide) rfl dX5_cross_35 ?_
  refine ro_goL (ro_S (As := [.long (G 32 i), .long (G 33 i), .long (G 32 j), .long (G 33 j), .long (G 34 k), .long (G 35 k)]) (rest := []) C hR st_X5_175 (c_X5_turn l D cs _ (G 32 i) (G 33 i) (G 32 j) (G 33 j) (G 34 k) (G 35 k)) ⟨rfl, rfl, Nat.le_of_ble_eq_true rfl, Nat.le_of_ble_eq_true rfl⟩ rfl hl.1 rfl (Nat.le_of_ble_eq_true rfl) dX5_cross_36 ⟨Nat.le_of_ble_eq_true rfl, Nat.le_of_ble_eq_true rfl⟩) (fun r_36 h_36 => ?_)
  refine lv_lstore (lv' := [(5, .long r_36), (0, .ref X), (1, .int (nI i)), (2, .int (nI j)), (3, .int (nI k)), (4, .int (nI n))]) hx hb dX5_cross_39 hl (by decide) rfl (fun ls hl => ?_)
  refine lv_aload_n hx hb dX5_cross_41 rfl (lv_at hl 1 rfl) ?_
  refine gf_X5_92 C hR hS.1 rfl dX5_cross_42 ?_
  refine lv_iload_n hx hb dX5_cross_45 rfl (lv_at hl 2 rfl) ?_
  refine r_laldN (k := i) C hR (RS.j hS 32 4 rfl rfl) (by omega) (by decide) rfl dX5_cross_46 ?_
  refine lv_aload_n hx hb dX5_cross_47 rfl (lv_at hl 1 rfl) ?_
  refine gf_X5_96 C hR hS.1 rfl dX5_cross_48 ?_
  refine lv_iload_n hx hb dX5_cross_51 rfl (lv_at hl 2 rfl) ?_
  refine r_laldN (k := i) C hR (RS.j hS 33 4 rfl rfl) (by omega) (by decide) rfl dX5_cross_52 ?_
  refine lv_aload_n hx hb dX5_cross_53 rfl (lv_at hl 1 rfl) ?_
  refine gf_X5_92 C hR hS.1 rfl dX5_cross_54 ?_
  refine lv_iload_n hx hb dX5_cross_57 rfl (lv_at hl 3 rfl) ?_
  refine r_laldN (k := j) C hR (RS.j hS 32 4 rfl rfl) (by omega) (by decide) rfl dX5_cross_58 ?_
  refine lv_aload_n hx hb dX5_cross_59 rfl (lv_at hl 1 rfl) ?_
  refine gf_X5_96 C hR hS.1 rfl dX5_cross_60 ?_
  refine lv_iload_n hx hb dX5_cross_63 rfl (lv_at hl 3 rfl) ?_
  refine r_laldN (k := j) C hR (RS.j hS 33 4 rfl rfl) (by omega) (by decide) rfl dX5_cross_64 ?_
  refine lv_aload_n hx hb dX5_cross_65 rfl (lv_at hl 1 rfl) ?_
  refine gf_X5_99 C hR hS.1 rfl dX5_cross_66 ?_
  refine lv_iload hx hb dX5_cross_69 (lv_at hl 5 rfl) ?_
  refine r_laldN (k := n) C hR (RS.j hS 34 4 rfl rfl) (by omega) (by decide) rfl dX5_cross_71 ?_
  refine lv_aload_n hx hb dX5_cross_72 rfl (lv_at hl 1 rfl) ?_
  refine gf_X5_102 C hR hS.1 rfl dX5_cross_73 ?_
  refine lv_iload hx hb dX5_cross_76 (lv_at hl 5 rfl) ?_
  refine r_laldN (k := n) C hR (RS.j hS 35 4 rfl rfl) (by omega) (by decide) rfl dX5_cross_78 ?_
  refine ro_goL (ro_S (As := [.long (G 32 i), .long (G 33 i), .long (G 32 j), .long (G 33 j), .long (G 34 n), .long (G 35 n)]) (rest := []) C hR st_X5_175 (c_X5_turn l D cs _ (G 32 i) (G 33 i) (G 32 j) (G 33 j) (G 34 n) (G 35 n)) ⟨rfl, rfl, Nat.le_of_ble_eq_true rfl, Nat.le_of_ble_eq_true rfl⟩ rfl hl.1 rfl (Nat.le_of_ble_eq_true rfl) dX5_cross_79 ⟨Nat.le_of_ble_eq_true rfl, Nat.le_of_ble_eq_true rfl⟩) (fun r_79 h_79 => ?_)
  refine lv_lstore (lv' := [(7, .long r_79), (5, .long r_36), (0, .ref X), (1, .int (nI i)), (2, .int (nI j)), (3, .int (nI k)), (4, .int (nI n))]) hx hb dX5_cross_82 hl (by decide) rfl (fun ls hl => ?_)
  refine lv_aload_n hx hb dX5_cross_84 rfl (lv_at hl 2 rfl) ?_
  refine gf_X5_99 C hR hS.1 rfl dX5_cross_85 ?_
  refine lv_iload_n hx hb dX5_cross_88 rfl (lv_at hl 5 rfl) ?_
  refine r_laldN (k := k) C hR (RS.j hS 34 4 rfl rfl) (by omega) (by decide) rfl dX5_cross_89 ?_
  refine lv_aload_n hx hb dX5_cross_90 rfl (lv_at hl 2 rfl) ?_
  refine gf_X5_102 C hR hS.1 rfl dX5_cross_91 ?_
  refine lv_iload_n hx hb dX5_cross_94 rfl (lv_at hl 5 rfl) ?_
  refine r_laldN (k := k) C hR (RS.j hS 35 4 rfl rfl) (by omega) (by decide) rfl dX5_cross_95 ?_
  refine lv_aload_n hx hb dX5_cross_96 rfl (lv_at hl 2 rfl) ?_
  refine gf_X5_99 C hR hS.1 rfl dX5_cross_97 ?_
  refine lv_iload hx hb dX5_cross_100 (lv_at hl 6 rfl) ?_
  refine r_laldN (k := n) C hR (RS.j hS 34 4 rfl rfl) (by omega) (by decide) rfl dX5_cross_102 ?_
  refine lv_aload_n hx hb dX5_cross_103 rfl (lv_at hl 2 rfl) ?_
  refine gf_X5_102 C hR hS.1 rfl dX5_cross_104 ?_
  refine lv_iload hx hb dX5_cross_107 (lv_at hl 6 rfl) ?_
  refine r_laldN (k := n) C hR (RS.j hS 35 4 rfl rfl) (by omega) (by decide) rfl dX5_cross_109 ?_
  refine lv_aload_n hx hb dX5_cross_110 rfl (lv_at hl 2 rfl) ?_
  refine gf_X5_92 C hR hS.1 rfl dX5_cross_111 ?_
  refine lv_iload_n hx hb dX5_cross_114 rfl (lv_at hl 3 rfl) ?_
  refine r_laldN (k := i) C hR (RS.j hS 32 4 rfl rfl) (by omega) (by decide) rfl dX5_cross_115 ?_
  refine lv_aload_n hx hb dX5_cross_116 rfl (lv_at hl 2 rfl) ?_
  refine gf_X5_96 C hR hS.1 rfl dX5_cross_117 ?_
  refine lv_iload_n hx hb dX5_cross_120 rfl (lv_at hl 3 rfl) ?_
  refine r_laldN (k := i) C hR (RS.j hS 33 4 rfl rfl) (by omega) (by decide) rfl dX5_cross_121 ?_
  refine ro_goL (ro_S (As := [.long (G 34 k), .long (G 35 k), .long (G 34 n), .long (G 35 n), .long (G 32 i), .long (G 33 i)]) (rest := []) C hR st_X5_175 (c_X5_turn l D cs _ (G 34 k) (G 35 k) (G 34 n) (G 35 n) (G 32 i) (G 33 i)) ⟨rfl, rfl, Nat.le_of_ble_eq_true rfl, Nat.le_of_ble_eq_true rfl⟩ rfl hl.1 rfl (Nat.le_of_ble_eq_true rfl) dX5_cross_122 ⟨Nat.le_of_ble_eq_true rfl, Nat.le_of_ble_eq_true rfl⟩) (fun r_122 h_122 => ?_)
  refine lv_lstore (lv' := [(9, .long r_122), (7, .long r_79), (5, .long r_36), (0, .ref X), (1, .int (nI i)), (2, .int (nI j)), (3, .int (nI k)), (4, .int (nI n))]) hx hb dX5_cross_125 hl (by decide) rfl (fun ls hl => ?_)
  refine lv_aload_n hx hb dX5_cross_127 rfl (lv_at hl 3 rfl) ?_
  refine gf_X5_99 C hR hS.1 rfl dX5_cross_128 ?_
  refine lv_iload_n hx hb dX5_cross_131 rfl (lv_at hl 6 rfl) ?_
  refine r_laldN (k := k) C hR (RS.j hS 34 4 rfl rfl) (by omega) (by decide) rfl dX5_cross_132 ?_
  refine lv_aload_n hx hb dX5_cross_133 rfl (lv_at hl 3 rfl) ?_
  refine gf_X5_102 C hR hS.1 rfl dX5_cross_134 ?_
  refine lv_iload_n hx hb dX5_cross_137 rfl (lv_at hl 6 rfl) ?_
  refine r_laldN (k := k) C hR (RS.j hS 35 4 rfl rfl) (by omega) (by decide) rfl dX5_cross_138 ?_
  refine lv_aload_n hx hb dX5_cross_139 rfl (lv_at hl 3 rfl) ?_
  refine gf_X5_99 C hR hS.1 rfl dX5_cross_140 ?_
  refine lv_iload hx hb dX5_cross_143 (lv_at hl 7 rfl) ?_
  refine r_laldN (k := n) C hR (RS.j hS 34 4 rfl rfl) (by omega) (by decide) rfl dX5_cross_145 ?_
  refine lv_aload_n hx hb dX5_cross_146 rfl (lv_at hl 3 rfl) ?_
  refine gf_X5_102 C hR hS.1 rfl dX5_cross_147 ?_
  refine lv_iload hx hb dX5_cross_150 (lv_at hl 7 rfl) ?_
  refine r_laldN (k := n) C hR (RS.j hS 35 4 rfl rfl) (by omega) (by decide) rfl dX5_cross_152 ?_
  refine lv_aload_n hx hb dX5_cross_153 rfl (lv_at hl 3 rfl) ?_
  refine gf_X5_92 C hR hS.1 rfl dX5_cross_154 ?_
  refine lv_iload_n hx hb dX5_cross_157 rfl (lv_at hl 5 rfl) ?_
  refine r_laldN (k := j) C hR (RS.j hS 32 4 rfl rfl) (by omega) (by decide) rfl dX5_cross_158 ?_
  refine lv_aload_n hx hb dX5_cross_159 rfl (lv_at hl 3 rfl) ?_
  refine gf_X5_96 C hR hS.1 rfl dX5_cross_160 ?_
  refine lv_iload_n hx hb dX5_cross_163 rfl (lv_at hl 5 rfl) ?_
  refine r_laldN (k := j) C hR (RS.j hS 33 4 rfl rfl) (by omega) (by decide) rfl dX5_cross_164 ?_
  refine ro_goL (ro_S (As := [.long (G 34 k), .long (G 35 k), .long (G 34 n), .long (G 35 n), .long (G 32 j), .long (G 33 j)]) (rest := []) C hR st_X5_175 (c_X5_turn l D cs _ (G 34 k) (G 35 k) (G 34 n) (G 35 n) (G 32 j) (G 33 j)) ⟨rfl, rfl, Nat.le_of_ble_eq_true rfl, Nat.le_of_ble_eq_true rfl⟩ rfl hl.1 rfl (Nat.le_of_ble_eq_true rfl) dX5_cross_165 ⟨Nat.le_of_ble_eq_true rfl, Nat.le_of_ble_eq_true rfl⟩) (fun r_165 h_165 => ?_)
  refine lv_lstore (lv' := [(11, .long r_165), (9, .long r_122), (7, .long r_79), (5, .long r_36), (0, .ref X), (1, .int (nI i)), (2, .int (nI j)), (3, .int (nI k)), (4, .int (nI n))]) hx hb dX5_cross_168 hl (by decide) rfl (fun ls hl => ?_)
  refine W.cutP (decide (¬ 0 ≤ r_36 * r_79 ∧ ¬ 0 ≤ r_122 * r_165) = false) (F0 m 192 ls []) (fun hz_192 => ?_) (fun J_192 => ?_)
  · refine W.cutP ((decide (r_36 = 0) && rOn (G 32 i) (G 33 i) (G 32 j) (G 33 j) (G 34 k) (G 35 k)) = false) (F0 m 241 ls []) (fun hz_241 => ?_) (fun J_241 => ?_)
    · refine W.cutP ((decide (r_79 = 0) && rOn (G 32 i) (G 33 i) (G 32 j) (G 33 j) (G 34 n) (G 35 n)) = false) (F0 m 292 ls []) (fun hz_292 => ?_) (fun J_292 => ?_)
      · refine W.cutP ((decide (r_122 = 0) && rOn (G 34 k) (G 35 k) (G 34 n) (G 35 n) (G 32 i) (G 33 i)) = false) (F0 m 343 ls []) (fun hz_343 => ?_) (fun J_343 => ?_)
        · refine lv_lload hx hb dX5_cross_343 (lv_at hl 0 rfl) ?_
          refine lv_lconst (v := 0) hx hb dX5_cross_345 (by decide) ?_
          refine W.lcmp hx hb dX5_cross_346 ?_
          refine lv_if_ne (tgt := 398) hx hb dX5_cross_347 (by decide) (fun c_347 => ?_) (fun c_347 => ?_)
          · have c_347 : ¬ (r_165 = 0) := fun h => c_347 ((lg_cmp_eq _ _).mpr h)
            refine lv_iconst (v := 0) hx hb dX5_cross_398 (by decide) ?_
            exact ro_zret C hr hlk rfl (bI_f (by rw [rCr, ← h_36, ← h_79, ← h_122, ← h_165, rCr0, hz_192, hz_241, hz_292, hz_343]; simp [c_347])) dX5_cross_399
          · have c_347 : r_165 = 0 := (lg_cmp_eq _ _).mp c_347
            refine lv_aload_n hx hb dX5_cross_350 rfl (lv_at hl 4 rfl) ?_
            refine gf_X5_99 C hR hS.1 rfl dX5_cross_351 ?_
            refine lv_iload_n hx hb dX5_cross_354 rfl (lv_at hl 7 rfl) ?_
            refine r_laldN (k := k) C hR (RS.j hS 34 4 rfl rfl) (by omega) (by decide) rfl dX5_cross_355 ?_
            refine lv_aload_n hx hb dX5_cross_356 rfl (lv_at hl 4 rfl) ?_
            refine gf_X5_102 C hR hS.1 rfl dX5_cross_357 ?_
            refine lv_iload_n hx hb dX5_cross_360 rfl (lv_at hl 7 rfl) ?_
            refine r_laldN (k := k) C hR (RS.j hS 35 4 rfl rfl) (by omega) (by decide) rfl dX5_cross_361 ?_
            refine lv_aload_n hx hb dX5_cross_362 rfl (lv_at hl 4 rfl) ?_
            refine gf_X5_99 C hR hS.1 rfl dX5_cross_363 ?_
            refine lv_iload hx hb dX5_cross_366 (lv_at hl 8 rfl) ?_
            refine r_laldN (k := n) C hR (RS.j hS 34 4 rfl rfl) (by omega) (by decide) rfl dX5_cross_368 ?_
            refine lv_aload_n hx hb dX5_cross_369 rfl (lv_at hl 4 rfl) ?_
            refine gf_X5_102 C hR hS.1 rfl dX5_cross_370 ?_
            refine lv_iload hx hb dX5_cross_373 (lv_at hl 8 rfl) ?_
            refine r_laldN (k := n) C hR (RS.j hS 35 4 rfl rfl) (by omega) (by decide) rfl dX5_cross_375 ?_
            refine lv_aload_n hx hb dX5_cross_376 rfl (lv_at hl 4 rfl) ?_
            refine gf_X5_92 C hR hS.1 rfl dX5_cross_377 ?_
            refine lv_iload_n hx hb dX5_cross_380 rfl (lv_at hl 6 rfl) ?_
            refine r_laldN (k := j) C hR (RS.j hS 32 4 rfl rfl) (by omega) (by decide) rfl dX5_cross_381 ?_
            refine lv_aload_n hx hb dX5_cross_382 rfl (lv_at hl 4 rfl) ?_
            refine gf_X5_96 C hR hS.1 rfl dX5_cross_383 ?_
            refine lv_iload_n hx hb dX5_cross_386 rfl (lv_at hl 6 rfl) ?_
            refine r_laldN (k := j) C hR (RS.j hS 33 4 rfl rfl) (by omega) (by decide) rfl dX5_cross_387 ?_
            refine ro_goI (ro_S (As := [.long (G 34 k), .long (G 35 k), .long (G 34 n), .long (G 35 n), .long (G 32 j), .long (G 33 j)]) (rest := []) C hR st_X5_179 (c_X5_isOn l D cs _ (G 34 k) (G 35 k) (G 34 n) (G 35 n) (G 32 j) (G 33 j)) ⟨rfl, rfl, Nat.le_of_ble_eq_true rfl, Nat.le_of_ble_eq_true rfl⟩ rfl hl.1 rfl (Nat.le_of_ble_eq_true rfl) dX5_cross_388 ⟨Nat.le_of_ble_eq_true rfl, Nat.le_of_ble_eq_true rfl⟩) (fun r_388 h_388 => ?_)
            refine lv_if_eq (tgt := 398) hx hb dX5_cross_391 (by decide) (fun c_391 => ?_) (fun c_391 => ?_)
            · have c_391 : ¬ (rOn (G 34 k) (G 35 k) (G 34 n) (G 35 n) (G 32 j) (G 33 j) = true) := bz0 h_388 c_391
              refine lv_iconst (v := 0) hx hb dX5_cross_398 (by decide) ?_
              exact ro_zret C hr hlk rfl (bI_f (by rw [rCr, ← h_36, ← h_79, ← h_122, ← h_165, rCr0, hz_192, hz_241, hz_292, hz_343]; simp [c_347, c_391])) dX5_cross_399
            · have c_391 : rOn (G 34 k) (G 35 k) (G 34 n) (G 35 n) (G 32 j) (G 33 j) = true := bz1 h_388 c_391
              refine lv_iconst (v := 1) hx hb dX5_cross_394 (by decide) ?_
              refine lv_goto (tgt := 399) hx hb dX5_cross_395 (by decide) ?_
              exact ro_zret C hr hlk rfl (bI_t (by rw [rCr, ← h_36, ← h_79, ← h_122, ← h_165, rCr0, hz_192, hz_241, hz_292, hz_343]; simp [c_347, c_391])) dX5_cross_399
        · refine lv_lload hx hb dX5_cross_292 (lv_at hl 1 rfl) ?_
          refine lv_lconst (v := 0) hx hb dX5_cross_294 (by decide) ?_
          refine W.lcmp hx hb dX5_cross_295 ?_
          refine lv_if_ne (tgt := 343) hx hb dX5_cross_296 (by decide) (fun c_296 => ?_) (fun c_296 => ?_)
          · have c_296 : ¬ (r_122 = 0) := fun h => c_296 ((lg_cmp_eq _ _).mpr h)
            exact J_343 (by simp [c_296])
          · have c_296 : r_122 = 0 := (lg_cmp_eq _ _).mp c_296
            refine lv_aload_n hx hb dX5_cross_299 rfl (lv_at hl 4 rfl) ?_
            refine gf_X5_99 C hR hS.1 rfl dX5_cross_300 ?_
            refine lv_iload_n hx hb dX5_cross_303 rfl (lv_at hl 7 rfl) ?_
            refine r_laldN (k := k) C hR (RS.j hS 34 4 rfl rfl) (by omega) (by decide) rfl dX5_cross_304 ?_
            refine lv_aload_n hx hb dX5_cross_305 rfl (lv_at hl 4 rfl) ?_
            refine gf_X5_102 C hR hS.1 rfl dX5_cross_306 ?_
            refine lv_iload_n hx hb dX5_cross_309 rfl (lv_at hl 7 rfl) ?_
            refine r_laldN (k := k) C hR (RS.j hS 35 4 rfl rfl) (by omega) (by decide) rfl dX5_cross_310 ?_
            refine lv_aload_n hx hb dX5_cross_311 rfl (lv_at hl 4 rfl) ?_
            refine gf_X5_99 C hR hS.1 rfl dX5_cross_312 ?_
            refine lv_iload hx hb dX5_cross_315 (lv_at hl 8 rfl) ?_
            refine r_laldN (k := n) C hR (RS.j hS 34 4 rfl rfl) (by omega) (by decide) rfl dX5_cross_317 ?_
            refine lv_aload_n hx hb dX5_cross_318 rfl (lv_at hl 4 rfl) ?_
            refine gf_X5_102 C hR hS.1 rfl dX5_cross_319 ?_
            refine lv_iload hx hb dX5_cross_322 (lv_at hl 8 rfl) ?_
            refine r_laldN (k := n) C hR (RS.j hS 35 4 rfl rfl) (by omega) (by decide) rfl dX5_cross_324 ?_
            refine lv_aload_n hx hb dX5_cross_325 rfl (lv_at hl 4 rfl) ?_
            refine gf_X5_92 C hR hS.1 rfl dX5_cross_326 ?_
            refine lv_iload_n hx hb dX5_cross_329 rfl (lv_at hl 5 rfl) ?_
            refine r_laldN (k := i) C hR (RS.j hS 32 4 rfl rfl) (by omega) (by decide) rfl dX5_cross_330 ?_
            refine lv_aload_n hx hb dX5_cross_331 rfl (lv_at hl 4 rfl) ?_
            refine gf_X5_96 C hR hS.1 rfl dX5_cross_332 ?_
            refine lv_iload_n hx hb dX5_cross_335 rfl (lv_at hl 5 rfl) ?_
            refine r_laldN (k := i) C hR (RS.j hS 33 4 rfl rfl) (by omega) (by decide) rfl dX5_cross_336 ?_
            refine ro_goI (ro_S (As := [.long (G 34 k), .long (G 35 k), .long (G 34 n), .long (G 35 n), .long (G 32 i), .long (G 33 i)]) (rest := []) C hR st_X5_179 (c_X5_isOn l D cs _ (G 34 k) (G 35 k) (G 34 n) (G 35 n) (G 32 i) (G 33 i)) ⟨rfl, rfl, Nat.le_of_ble_eq_true rfl, Nat.le_of_ble_eq_true rfl⟩ rfl hl.1 rfl (Nat.le_of_ble_eq_true rfl) dX5_cross_337 ⟨Nat.le_of_ble_eq_true rfl, Nat.le_of_ble_eq_true rfl⟩) (fun r_337 h_337 => ?_)
            refine lv_if_ne (tgt := 394) hx hb dX5_cross_340 (by decide) (fun c_340 => ?_) (fun c_340 => ?_)
            · have c_340 : rOn (G 34 k) (G 35 k) (G 34 n) (G 35 n) (G 32 i) (G 33 i) = true := bz1 h_337 c_340
              refine lv_iconst (v := 1) hx hb dX5_cross_394 (by decide) ?_
              refine lv_goto (tgt := 399) hx hb dX5_cross_395 (by decide) ?_
              exact ro_zret C hr hlk rfl (bI_t (by rw [rCr, ← h_36, ← h_79, ← h_122, ← h_165, rCr0, hz_192, hz_241, hz_292]; simp [c_296, c_340])) dX5_cross_399
            · have c_340 : ¬ (rOn (G 34 k) (G 35 k) (G 34 n) (G 35 n) (G 32 i) (G 33 i) = true) := bz0 h_337 c_340
              exact J_343 (by simp [c_296, c_340])
      · refine lv_lload hx hb dX5_cross_241 (lv_at hl 2 rfl) ?_
        refine lv_lconst (v := 0) hx hb dX5_cross_243 (by decide) ?_
        refine W.lcmp hx hb dX5_cross_244 ?_
        refine lv_if_ne (tgt := 292) hx hb dX5_cross_245 (by decide) (fun c_245 => ?_) (fun c_245 => ?_)
        · have c_245 : ¬ (r_79 = 0) := fun h => c_245 ((lg_cmp_eq _ _).mpr h)
          exact J_292 (by simp [c_245])
        · have c_245 : r_79 = 0 := (lg_cmp_eq _ _).mp c_245
          refine lv_aload_n hx hb dX5_cross_248 rfl (lv_at hl 4 rfl) ?_
          refine gf_X5_92 C hR hS.1 rfl dX5_cross_249 ?_
          refine lv_iload_n hx hb dX5_cross_252 rfl (lv_at hl 5 rfl) ?_
          refine r_laldN (k := i) C hR (RS.j hS 32 4 rfl rfl) (by omega) (by decide) rfl dX5_cross_253 ?_
          refine lv_aload_n hx hb dX5_cross_254 rfl (lv_at hl 4 rfl) ?_
          refine gf_X5_96 C hR hS.1 rfl dX5_cross_255 ?_
          refine lv_iload_n hx hb dX5_cross_258 rfl (lv_at hl 5 rfl) ?_
          refine r_laldN (k := i) C hR (RS.j hS 33 4 rfl rfl) (by omega) (by decide) rfl dX5_cross_259 ?_
          refine lv_aload_n hx hb dX5_cross_260 rfl (lv_at hl 4 rfl) ?_
          refine gf_X5_92 C hR hS.1 rfl dX5_cross_261 ?_
          refine lv_iload_n hx hb dX5_cross_264 rfl (lv_at hl 6 rfl) ?_
          refine r_laldN (k := j) C hR (RS.j hS 32 4 rfl rfl) (by omega) (by decide) rfl dX5_cross_265 ?_
          refine lv_aload_n hx hb dX5_cross_266 rfl (lv_at hl 4 rfl) ?_
          refine gf_X5_96 C hR hS.1 rfl dX5_cross_267 ?_
          refine lv_iload_n hx hb dX5_cross_270 rfl (lv_at hl 6 rfl) ?_
          refine r_laldN (k := j) C hR (RS.j hS 33 4 rfl rfl) (by omega) (by decide) rfl dX5_cross_271 ?_
          refine lv_aload_n hx hb dX5_cross_272 rfl (lv_at hl 4 rfl) ?_
          refine gf_X5_99 C hR hS.1 rfl dX5_cross_273 ?_
          refine lv_iload hx hb dX5_cross_276 (lv_at hl 8 rfl) ?_
          refine r_laldN (k := n) C hR (RS.j hS 34 4 rfl rfl) (by omega) (by decide) rfl dX5_cross_278 ?_
          refine lv_aload_n hx hb dX5_cross_279 rfl (lv_at hl 4 rfl) ?_
          refine gf_X5_102 C hR hS.1 rfl dX5_cross_280 ?_
          refine lv_iload hx hb dX5_cross_283 (lv_at hl 8 rfl) ?_
          refine r_laldN (k := n) C hR (RS.j hS 35 4 rfl rfl) (by omega) (by decide) rfl dX5_cross_285 ?_
          refine ro_goI (ro_S (As := [.long (G 32 i), .long (G 33 i), .long (G 32 j), .long (G 33 j), .long (G 34 n), .long (G 35 n)]) (rest := []) C hR st_X5_179 (c_X5_isOn l D cs _ (G 32 i) (G 33 i) (G 32 j) (G 33 j) (G 34 n) (G 35 n)) ⟨rfl, rfl, Nat.le_of_ble_eq_true rfl, Nat.le_of_ble_eq_true rfl⟩ rfl hl.1 rfl (Nat.le_of_ble_eq_true rfl) dX5_cross_286 ⟨Nat.le_of_ble_eq_true rfl, Nat.le_of_ble_eq_true rfl⟩) (fun r_286 h_286 => ?_)
          refine lv_if_ne (tgt := 394) hx hb dX5_cross_289 (by decide) (fun c_289 => ?_) (fun c_289 => ?_)
          · have c_289 : rOn (G 32 i) (G 33 i) (G 32 j) (G 33 j) (G 34 n) (G 35 n) = true := bz1 h_286 c_289
            refine lv_iconst (v := 1) hx hb dX5_cross_394 (by decide) ?_
            refine lv_goto (tgt := 399) hx hb dX5_cross_395 (by decide) ?_
            exact ro_zret C hr hlk rfl (bI_t (by rw [rCr, ← h_36, ← h_79, ← h_122, ← h_165, rCr0, hz_192, hz_241]; simp [c_245, c_289])) dX5_cross_399
          · have c_289 : ¬ (rOn (G 32 i) (G 33 i) (G 32 j) (G 33 j) (G 34 n) (G 35 n) = true) := bz0 h_286 c_289
            exact J_292 (by simp [c_245, c_289])
    · refine lv_lload hx hb dX5_cross_192 (lv_at hl 3 rfl) ?_
      refine lv_lconst (v := 0) hx hb dX5_cross_194 (by decide) ?_
      refine W.lcmp hx hb dX5_cross_195 ?_
      refine lv_if_ne (tgt := 241) hx hb dX5_cross_196 (by decide) (fun c_196 => ?_) (fun c_196 => ?_)
      · have c_196 : ¬ (r_36 = 0) := fun h => c_196 ((lg_cmp_eq _ _).mpr h)
        exact J_241 (by simp [c_196])
      · have c_196 : r_36 = 0 := (lg_cmp_eq _ _).mp c_196
        refine lv_aload_n hx hb dX5_cross_199 rfl (lv_at hl 4 rfl) ?_
        refine gf_X5_92 C hR hS.1 rfl dX5_cross_200 ?_
        refine lv_iload_n hx hb dX5_cross_203 rfl (lv_at hl 5 rfl) ?_
        refine r_laldN (k := i) C hR (RS.j hS 32 4 rfl rfl) (by omega) (by decide) rfl dX5_cross_204 ?_
        refine lv_aload_n hx hb dX5_cross_205 rfl (lv_at hl 4 rfl) ?_
        refine gf_X5_96 C hR hS.1 rfl dX5_cross_206 ?_
        refine lv_iload_n hx hb dX5_cross_209 rfl (lv_at hl 5 rfl) ?_
        refine r_laldN (k := i) C hR (RS.j hS 33 4 rfl rfl) (by omega) (by decide) rfl dX5_cross_210 ?_
        refine lv_aload_n hx hb dX5_cross_211 rfl (lv_at hl 4 rfl) ?_
        refine gf_X5_92 C hR hS.1 rfl dX5_cross_212 ?_
        refine lv_iload_n hx hb dX5_cross_215 rfl (lv_at hl 6 rfl) ?_
        refine r_laldN (k := j) C hR (RS.j hS 32 4 rfl rfl) (by omega) (by decide) rfl dX5_cross_216 ?_
        refine lv_aload_n hx hb dX5_cross_217 rfl (lv_at hl 4 rfl) ?_
        refine gf_X5_96 C hR hS.1 rfl dX5_cross_218 ?_
        refine lv_iload_n hx hb dX5_cross_221 rfl (lv_at hl 6 rfl) ?_
        refine r_laldN (k := j) C hR (RS.j hS 33 4 rfl rfl) (by omega) (by decide) rfl dX5_cross_222 ?_
        refine lv_aload_n hx hb dX5_cross_223 rfl (lv_at hl 4 rfl) ?_
        refine gf_X5_99 C hR hS.1 rfl dX5_cross_224 ?_
        refine lv_iload_n hx hb dX5_cross_227 rfl (lv_at hl 7 rfl) ?_
        refine r_laldN (k := k) C hR (RS.j hS 34 4 rfl rfl) (by omega) (by decide) rfl dX5_cross_228 ?_
        refine lv_aload_n hx hb dX5_cross_229 rfl (lv_at hl 4 rfl) ?_
        refine gf_X5_102 C hR hS.1 rfl dX5_cross_230 ?_
        refine lv_iload_n hx hb dX5_cross_233 rfl (lv_at hl 7 rfl) ?_
        refine r_laldN (k := k) C hR (RS.j hS 35 4 rfl rfl) (by omega) (by decide) rfl dX5_cross_234 ?_
        refine ro_goI (ro_S (As := [.long (G 32 i), .long (G 33 i), .long (G 32 j), .long (G 33 j), .long (G 34 k), .long (G 35 k)]) (rest := []) C hR st_X5_179 (c_X5_isOn l D cs _ (G 32 i) (G 33 i) (G 32 j) (G 33 j) (G 34 k) (G 35 k)) ⟨rfl, rfl, Nat.le_of_ble_eq_true rfl, Nat.le_of_ble_eq_true rfl⟩ rfl hl.1 rfl (Nat.le_of_ble_eq_true rfl) dX5_cross_235 ⟨Nat.le_of_ble_eq_true rfl, Nat.le_of_ble_eq_true rfl⟩) (fun r_235 h_235 => ?_)
        refine lv_if_ne (tgt := 394) hx hb dX5_cross_238 (by decide) (fun c_238 => ?_) (fun c_238 => ?_)
        · have c_238 : rOn (G 32 i) (G 33 i) (G 32 j) (G 33 j) (G 34 k) (G 35 k) = true := bz1 h_235 c_238
          refine lv_iconst (v := 1) hx hb dX5_cross_394 (by decide) ?_
          refine lv_goto (tgt := 399) hx hb dX5_cross_395 (by decide) ?_
          exact ro_zret C hr hlk rfl (bI_t (by rw [rCr, ← h_36, ← h_79, ← h_122, ← h_165, rCr0, hz_192]; simp [c_196, c_238])) dX5_cross_399
        · have c_238 : ¬ (rOn (G 32 i) (G 33 i) (G 32 j) (G 33 j) (G 34 k) (G 35 k) = true) := bz0 h_235 c_238
          exact J_241 (by simp [c_196, c_238])
  · refine lv_lload hx hb dX5_cross_170 (lv_at hl 3 rfl) ?_
    refine lv_lload hx hb dX5_cross_172 (lv_at hl 2 rfl) ?_
    refine lv_lmul hx hb dX5_cross_174 ?_
    refine lv_lconst (v := 0) hx hb dX5_cross_175 (by decide) ?_
    refine W.lcmp hx hb dX5_cross_176 ?_
    refine lv_if_ge (tgt := 192) hx hb dX5_cross_177 (by decide) (fun c_177 => ?_) (fun c_177 => ?_)
    · have c_177 : 0 ≤ (r_36 * r_79) := (lg_cmp_ge _ _).mp c_177
      exact J_192 (by simp [c_177])
    · have c_177 : ¬ (0 ≤ (r_36 * r_79)) := fun h => c_177 ((lg_cmp_ge _ _).mpr h)
      refine lv_lload hx hb dX5_cross_180 (lv_at hl 1 rfl) ?_
      refine lv_lload hx hb dX5_cross_182 (lv_at hl 0 rfl) ?_
      refine lv_lmul hx hb dX5_cross_184 ?_
      refine lv_lconst (v := 0) hx hb dX5_cross_185 (by decide) ?_
      refine W.lcmp hx hb dX5_cross_186 ?_
      refine lv_if_ge (tgt := 192) hx hb dX5_cross_187 (by decide) (fun c_187 => ?_) (fun c_187 => ?_)
      · have c_187 : 0 ≤ (r_122 * r_165) := (lg_cmp_ge _ _).mp c_187
        exact J_192 (by simp [c_177, c_187])
      · have c_187 : ¬ (0 ≤ (r_122 * r_165)) := fun h => c_187 ((lg_cmp_ge _ _).mpr h)
        refine lv_iconst (v := 1) hx hb dX5_cross_190 (by decide) ?_
        exact ro_zret C hr hlk rfl (bI_t (by rw [rCr, ← h_36, ← h_79, ← h_122, ← h_165, rCr0]; simp [c_177, c_187])) dX5_cross_191

def wi (o : Nat) : Nat := if o = 0 then 1 else 0
def wj (o : Nat) : Nat := if 2 ≤ o then 1 else 2
def wk (o : Nat) : Nat := if 3 ≤ o then 2 else 3
theorem w_lt (o : Nat) : wi o < 4 ∧ wj o < 4 ∧ wk o < 4 := by unfold wi wj wk; refine ⟨?_, ?_, ?_⟩ <;> split <;> decide
def rTr (s t u f : Int64) : Bool := !decide (f = 0) && (decide (¬ s < 0 ∧ ¬ t < 0 ∧ 0 ≤ u) || decide (¬ 0 < s ∧ ¬ 0 < t ∧ ¬ 0 < u))
def rWs (x y : Nat → Int64) (p q : Int64) (o : Nat) : Bool := rTr (rTurn (x (wi o)) (y (wi o)) (x (wj o)) (y (wj o)) p q) (rTurn (x (wj o)) (y (wj o)) (x (wk o)) (y (wk o)) p q) (rTurn (x (wk o)) (y (wk o)) (x (wi o)) (y (wi o)) p q) (rTurn (x (wi o)) (y (wi o)) (x (wj o)) (y (wj o)) (x (wk o)) (y (wk o)))
def rWt (x y : Nat → Int64) (p q : Int64) : Nat → Bool
  | 0 => false
  | o + 1 => rWt x y p q o || rWs x y p q o
set_option maxHeartbeats 4000000 in
set_option maxRecDepth 100000 in
theorem c_X5_isWithin (l : Launch) (D : va_G) (cs : Nat → ClassId) (M : wM) (xa ya : Nat) (gx gy : Nat → Int64) (hxa : M xa = some (.inl (cs 1, 4, .inr (.inl gx)))) (hya : M ya = some (.inl (cs 1, 4, .inr (.inl gy)))) (p0 q : Int64) : Met l yX5_isWithin (mw yX5_isWithin cX5_isWithin 18 (some .boolean)) { frames := 1, cells := 0, slots := 0, locals := 33 } (roP D cs M [.ref xa, .ref ya, .long p0, .long q]) (vp_Si (fun r => r = bI (rWt gx gy p0 q 4 = true))) 0 0 noA := by
  refine ro_met rfl (Nat.le_of_ble_eq_true rfl) ?_
  intro p e s m below meth c ls C hR hr hlk hl
  have C : kx D cs p m c cX5_isWithin 18 s _ RX5 := C
  have hx := C.1.1
  have hb := C.1.2.1
  have hl : lv_has ls 18 [(0, .ref xa), (1, .ref ya), (2, .long p0), (4, .long q)] := hl
  refine lv_iconst (v := 0) hx hb dX5_isWithin_0 (by decide) ?_
  refine lv_istore (lv' := [(6, .int 0), (0, .ref xa), (1, .ref ya), (2, .long p0), (4, .long q)]) hx hb dX5_isWithin_1 hl (by decide) rfl (fun ls hl => ?_)
  refine lv_iconst (v := 0) hx hb dX5_isWithin_3 (by decide) ?_
  refine lv_istore (lv' := [(7, .int 0), (6, .int 0), (0, .ref xa), (1, .ref ya), (2, .long p0), (4, .long q)]) hx hb dX5_isWithin_4 hl (by decide) rfl (fun ls hl => ?_)
  refine W.loop (σ := Nat × Int32 × Array Slot) (fun ⟨o, z, ls⟩ => F0 m 6 ls []) (fun ⟨o, z, ls⟩ => (o ≤ 4) ∧ (z = bI (rWt gx gy p0 q o = true)) ∧ lv_has ls 18 [(6, .int z), (7, .int (nI o)), (0, .ref xa), (1, .ref ya), (2, .long p0), (4, .long q)]) (fun ⟨o, z, ls⟩ => 4 - o) ?_ (0, 0, _) ⟨by omega, bI_f (by simp [rWt]), lv_sub hl [1, 0, 2, 3, 4, 5] rfl⟩ rfl
  intro ⟨o, z, ls⟩ ⟨ho, hz, hl⟩ ih_6
  show W _ _ _ _ _ _ _ _ _ _ _ _ _ _ _ (F0 m 6 ls [])
  have hl : lv_has ls 18 [(6, .int z), (7, .int (nI o)), (0, .ref xa), (1, .ref ya), (2, .long p0), (4, .long q)] := hl
  have hw := w_lt o
  refine lv_iload hx hb dX5_isWithin_6 (lv_at hl 1 rfl) ?_
  refine lv_iconst (v := 4) hx hb dX5_isWithin_8 (by decide) ?_
  refine lv_icmp_ge (tgt := 226) hx hb dX5_isWithin_9 (by decide) (fun c_9 => ?_) (fun c_9 => ?_)
  · have c_9 := cle_t (a := 4) (b := o) c_9 (by omega) (by omega)
    refine lv_iload hx hb dX5_isWithin_226 (lv_at hl 0 rfl) ?_
    exact ro_zret C hr hlk (z_nar (bI_01 hz)) (Eq.trans hz (by rw [show o = 4 by omega])) dX5_isWithin_228
  · have c_9 := cle_f (a := 4) (b := o) c_9 (by omega) (by omega)
    refine W.cut (fun z => z = nI (wi o)) (fun z => F0 m 22 ls (.int z :: [])) (fun z_22 hz_22 => ?_) (fun J_22 => ?_)
    · subst hz_22
      refine lv_istore (lv' := [(8, .int (nI (wi o))), (6, .int z), (7, .int (nI o)), (0, .ref xa), (1, .ref ya), (2, .long p0), (4, .long q)]) hx hb dX5_isWithin_22 hl (by decide) rfl (fun ls hl => ?_)
      refine W.cut (fun z => z = nI (wj o)) (fun z => F0 m 35 ls (.int z :: [])) (fun z_35 hz_35 => ?_) (fun J_35 => ?_)
      · subst hz_35
        refine lv_istore (lv' := [(9, .int (nI (wj o))), (8, .int (nI (wi o))), (6, .int z), (7, .int (nI o)), (0, .ref xa), (1, .ref ya), (2, .long p0), (4, .long q)]) hx hb dX5_isWithin_35 hl (by decide) rfl (fun ls hl => ?_)
        refine W.cut (fun z => z = nI (wk o)) (fun z => F0 m 48 ls (.int z :: [])) (fun z_48 hz_48 => ?_) (fun J_48 => ?_)
        · subst hz_48
          refine lv_istore (lv' := [(10, .int (nI (wk o))), (9, .int (nI (wj o))), (8, .int (nI (wi o))), (6, .int z), (7, .int (nI o)), (0, .ref xa), (1, .ref ya), (2, .long p0), (4, .long q)]) hx hb dX5_isWithin_48 hl (by decide) rfl (fun ls hl => ?_)
          refine lv_aload_n hx hb dX5_isWithin_50 rfl (lv_at hl 5 rfl) ?_
          refine lv_iload hx hb dX5_isWithin_51 (lv_at hl 2 rfl) ?_
          refine r_laldN (k := (wi o)) C hR hxa (by omega) (by decide) rfl dX5_isWithin_53 ?_
          refine lv_aload_n hx hb dX5_isWithin_54 rfl (lv_at hl 6 rfl) ?_
          refine lv_iload hx hb dX5_isWithin_55 (lv_at hl 2 rfl) ?_
          refine r_laldN (k := (wi o)) C hR hya (by omega) (by decide) rfl dX5_isWithin_57 ?_
          refine lv_aload_n hx hb dX5_isWithin_58 rfl (lv_at hl 5 rfl) ?_
          refine lv_iload hx hb dX5_isWithin_59 (lv_at hl 1 rfl) ?_
          refine r_laldN (k := (wj o)) C hR hxa (by omega) (by decide) rfl dX5_isWithin_61 ?_
          refine lv_aload_n hx hb dX5_isWithin_62 rfl (lv_at hl 6 rfl) ?_
          refine lv_iload hx hb dX5_isWithin_63 (lv_at hl 1 rfl) ?_
          refine r_laldN (k := (wj o)) C hR hya (by omega) (by decide) rfl dX5_isWithin_65 ?_
          refine lv_lload_n hx hb dX5_isWithin_66 rfl (lv_at hl 7 rfl) ?_
          refine lv_lload hx hb dX5_isWithin_67 (lv_at hl 8 rfl) ?_
          refine ro_goL (ro_S (As := [.long (gx (wi o)), .long (gy (wi o)), .long (gx (wj o)), .long (gy (wj o)), .long p0, .long q]) (rest := []) C hR st_X5_175 (c_X5_turn l D cs _ (gx (wi o)) (gy (wi o)) (gx (wj o)) (gy (wj o)) p0 q) ⟨rfl, rfl, Nat.le_of_ble_eq_true rfl, Nat.le_of_ble_eq_true rfl⟩ rfl hl.1 rfl (Nat.le_of_ble_eq_true rfl) dX5_isWithin_69 ⟨Nat.le_of_ble_eq_true rfl, Nat.le_of_ble_eq_true rfl⟩) (fun r_69 h_69 => ?_)
          refine lv_lstore (lv' := [(11, .long r_69), (10, .int (nI (wk o))), (9, .int (nI (wj o))), (8, .int (nI (wi o))), (6, .int z), (7, .int (nI o)), (0, .ref xa), (1, .ref ya), (2, .long p0), (4, .long q)]) hx hb dX5_isWithin_72 hl (by decide) rfl (fun ls hl => ?_)
          refine lv_aload_n hx hb dX5_isWithin_74 rfl (lv_at hl 6 rfl) ?_
          refine lv_iload hx hb dX5_isWithin_75 (lv_at hl 2 rfl) ?_
          refine r_laldN (k := (wj o)) C hR hxa (by omega) (by decide) rfl dX5_isWithin_77 ?_
          refine lv_aload_n hx hb dX5_isWithin_78 rfl (lv_at hl 7 rfl) ?_
          refine lv_iload hx hb dX5_isWithin_79 (lv_at hl 2 rfl) ?_
          refine r_laldN (k := (wj o)) C hR hya (by omega) (by decide) rfl dX5_isWithin_81 ?_
          refine lv_aload_n hx hb dX5_isWithin_82 rfl (lv_at hl 6 rfl) ?_
          refine lv_iload hx hb dX5_isWithin_83 (lv_at hl 1 rfl) ?_
          refine r_laldN (k := (wk o)) C hR hxa (by omega) (by decide) rfl dX5_isWithin_85 ?_
          refine lv_aload_n hx hb dX5_isWithin_86 rfl (lv_at hl 7 rfl) ?_
          refine lv_iload hx hb dX5_isWithin_87 (lv_at hl 1 rfl) ?_
          refine r_laldN (k := (wk o)) C hR hya (by omega) (by decide) rfl dX5_isWithin_89 ?_
          refine lv_lload_n hx hb dX5_isWithin_90 rfl (lv_at hl 8 rfl) ?_
          refine lv_lload hx hb dX5_isWithin_91 (lv_at hl 9 rfl) ?_
          refine ro_goL (ro_S (As := [.long (gx (wj o)), .long (gy (wj o)), .long (gx (wk o)), .long (gy (wk o)), .long p0, .long q]) (rest := []) C hR st_X5_175 (c_X5_turn l D cs _ (gx (wj o)) (gy (wj o)) (gx (wk o)) (gy (wk o)) p0 q) ⟨rfl, rfl, Nat.le_of_ble_eq_true rfl, Nat.le_of_ble_eq_true rfl⟩ rfl hl.1 rfl (Nat.le_of_ble_eq_true rfl) dX5_isWithin_93 ⟨Nat.le_of_ble_eq_true rfl, Nat.le_of_ble_eq_true rfl⟩) (fun r_93 h_93 => ?_)
          refine lv_lstore (lv' := [(13, .long r_93), (11, .long r_69), (10, .int (nI (wk o))), (9, .int (nI (wj o))), (8, .int (nI (wi o))), (6, .int z), (7, .int (nI o)), (0, .ref xa), (1, .ref ya), (2, .long p0), (4, .long q)]) hx hb dX5_isWithin_96 hl (by decide) rfl (fun ls hl => ?_)
          refine lv_aload_n hx hb dX5_isWithin_98 rfl (lv_at hl 7 rfl) ?_
          refine lv_iload hx hb dX5_isWithin_99 (lv_at hl 2 rfl) ?_
          refine r_laldN (k := (wk o)) C hR hxa (by omega) (by decide) rfl dX5_isWithin_101 ?_
          refine lv_aload_n hx hb dX5_isWithin_102 rfl (lv_at hl 8 rfl) ?_
          refine lv_iload hx hb dX5_isWithin_103 (lv_at hl 2 rfl) ?_
          refine r_laldN (k := (wk o)) C hR hya (by omega) (by decide) rfl dX5_isWithin_105 ?_
          refine lv_aload_n hx hb dX5_isWithin_106 rfl (lv_at hl 7 rfl) ?_
          refine lv_iload hx hb dX5_isWithin_107 (lv_at hl 4 rfl) ?_
          refine r_laldN (k := (wi o)) C hR hxa (by omega) (by decide) rfl dX5_isWithin_109 ?_
          refine lv_aload_n hx hb dX5_isWithin_110 rfl (lv_at hl 8 rfl) ?_
          refine lv_iload hx hb dX5_isWithin_111 (lv_at hl 4 rfl) ?_
          refine r_laldN (k := (wi o)) C hR hya (by omega) (by decide) rfl dX5_isWithin_113 ?_
          refine lv_lload_n hx hb dX5_isWithin_114 rfl (lv_at hl 9 rfl) ?_
          refine lv_lload hx hb dX5_isWithin_115 (lv_at hl 10 rfl) ?_
          refine ro_goL (ro_S (As := [.long (gx (wk o)), .long (gy (wk o)), .long (gx (wi o)), .long (gy (wi o)), .long p0, .long q]) (rest := []) C hR st_X5_175 (c_X5_turn l D cs _ (gx (wk o)) (gy (wk o)) (gx (wi o)) (gy (wi o)) p0 q) ⟨rfl, rfl, Nat.le_of_ble_eq_true rfl, Nat.le_of_ble_eq_true rfl⟩ rfl hl.1 rfl (Nat.le_of_ble_eq_true rfl) dX5_isWithin_117 ⟨Nat.le_of_ble_eq_true rfl, Nat.le_of_ble_eq_true rfl⟩) (fun r_117 h_117 => ?_)
          refine lv_lstore (lv' := [(15, .long r_117), (13, .long r_93), (11, .long r_69), (10, .int (nI (wk o))), (9, .int (nI (wj o))), (8, .int (nI (wi o))), (6, .int z), (7, .int (nI o)), (0, .ref xa), (1, .ref ya), (2, .long p0), (4, .long q)]) hx hb dX5_isWithin_120 hl (by decide) rfl (fun ls hl => ?_)
          refine lv_aload_n hx hb dX5_isWithin_122 rfl (lv_at hl 8 rfl) ?_
          refine lv_iload hx hb dX5_isWithin_123 (lv_at hl 5 rfl) ?_
          refine r_laldN (k := (wi o)) C hR hxa (by omega) (by decide) rfl dX5_isWithin_125 ?_
          refine lv_aload_n hx hb dX5_isWithin_126 rfl (lv_at hl 9 rfl) ?_
          refine lv_iload hx hb dX5_isWithin_127 (lv_at hl 5 rfl) ?_
          refine r_laldN (k := (wi o)) C hR hya (by omega) (by decide) rfl dX5_isWithin_129 ?_
          refine lv_aload_n hx hb dX5_isWithin_130 rfl (lv_at hl 8 rfl) ?_
          refine lv_iload hx hb dX5_isWithin_131 (lv_at hl 4 rfl) ?_
          refine r_laldN (k := (wj o)) C hR hxa (by omega) (by decide) rfl dX5_isWithin_133 ?_
          refine lv_aload_n hx hb dX5_isWithin_134 rfl (lv_at hl 9 rfl) ?_
          refine lv_iload hx hb dX5_isWithin_135 (lv_at hl 4 rfl) ?_
          refine r_laldN (k := (wj o)) C hR hya (by omega) (by decide) rfl dX5_isWithin_137 ?_
          refine lv_aload_n hx hb dX5_isWithin_138 rfl (lv_at hl 8 rfl) ?_
          refine lv_iload hx hb dX5_isWithin_139 (lv_at hl 3 rfl) ?_
          refine r_laldN (k := (wk o)) C hR hxa (by omega) (by decide) rfl dX5_isWithin_141 ?_
          refine lv_aload_n hx hb dX5_isWithin_142 rfl (lv_at hl 9 rfl) ?_
          refine lv_iload hx hb dX5_isWithin_143 (lv_at hl 3 rfl) ?_
          refine r_laldN (k := (wk o)) C hR hya (by omega) (by decide) rfl dX5_isWithin_145 ?_
          refine ro_goL (ro_S (As := [.long (gx (wi o)), .long (gy (wi o)), .long (gx (wj o)), .long (gy (wj o)), .long (gx (wk o)), .long (gy (wk o))]) (rest := []) C hR st_X5_175 (c_X5_turn l D cs _ (gx (wi o)) (gy (wi o)) (gx (wj o)) (gy (wj o)) (gx (wk o)) (gy (wk o))) ⟨rfl, rfl, Nat.le_of_ble_eq_true rfl, Nat.le_of_ble_eq_true rfl⟩ rfl hl.1 rfl (Nat.le_of_ble_eq_true rfl) dX5_isWithin_146 ⟨Nat.le_of_ble_eq_true rfl, Nat.le_of_ble_eq_true rfl⟩) (fun r_146 h_146 => ?_)
          refine W.cut (fun z => z = bI (r_146 = 0)) (fun z => F0 m 159 ls (.int z :: [])) (fun z_159 hz_159 => ?_) (fun J_159 => ?_)
          · refine lv_istore (lv' := [(17, .int z_159), (15, .long r_117), (13, .long r_93), (11, .long r_69), (10, .int (nI (wk o))), (9, .int (nI (wj o))), (8, .int (nI (wi o))), (6, .int z), (7, .int (nI o)), (0, .ref xa), (1, .ref ya), (2, .long p0), (4, .long q)]) hx hb dX5_isWithin_159 hl (by decide) rfl (fun ls hl => ?_)
            refine W.cut (fun z => z = bI ((rWt gx gy p0 q o || rWs gx gy p0 q o) = true)) (fun z => F0 m 218 ls (.int z :: [])) (fun z_218 hz_218 => ?_) (fun J_218 => ?_)
            · refine lv_istore (lv' := [(6, .int z_218), (17, .int z_159), (15, .long r_117), (13, .long r_93), (11, .long r_69), (10, .int (nI (wk o))), (9, .int (nI (wj o))), (8, .int (nI (wi o))), (7, .int (nI o)), (0, .ref xa), (1, .ref ya), (2, .long p0), (4, .long q)]) hx hb dX5_isWithin_218 hl (by decide) rfl (fun ls hl => ?_)
              refine lv_iinc (v := nI (o + 1)) (lv' := [(7, .int (nI (o + 1))), (6, .int z_218), (17, .int z_159), (15, .long r_117), (13, .long r_93), (11, .long r_69), (10, .int (nI (wk o))), (9, .int (nI (wj o))), (8, .int (nI (wi o))), (0, .ref xa), (1, .ref ya), (2, .long p0), (4, .long q)]) hx hb dX5_isWithin_220 hl (k := 8) rfl (by exact tn_add rfl rfl) (by decide) rfl (fun ls hl => ?_)
              refine lv_goto (tgt := 6) hx hb dX5_isWithin_223 (by decide) ?_
              exact ih_6 ((o + 1), z_218, _) ⟨by omega, hz_218, lv_sub hl [1, 0, 9, 10, 11, 12] rfl⟩ (by show 4 - (o + 1) < 4 - o; omega)
            · refine lv_iload hx hb dX5_isWithin_161 (lv_at hl 7 rfl) ?_
              refine lv_if_ne (tgt := 213) hx hb dX5_isWithin_163 (by decide) (fun c_163 => ?_) (fun c_163 => ?_)
              · have c_163 : rWt gx gy p0 q o = true := bz1 hz c_163
                refine lv_iconst (v := 1) hx hb dX5_isWithin_213 (by decide) ?_
                refine lv_goto (tgt := 218) hx hb dX5_isWithin_214 (by decide) ?_
                exact J_218 _ (bI_t (by rw [rWs, ← h_69, ← h_93, ← h_117, ← h_146]; simp [rTr, c_163]))
              · have c_163 : ¬ (rWt gx gy p0 q o = true) := bz0 hz c_163
                refine lv_iload hx hb dX5_isWithin_166 (lv_at hl 0 rfl) ?_
                refine lv_if_ne (tgt := 217) hx hb dX5_isWithin_168 (by decide) (fun c_168 => ?_) (fun c_168 => ?_)
                · have c_168 : r_146 = 0 := bz1 hz_159 c_168
                  refine lv_iconst (v := 0) hx hb dX5_isWithin_217 (by decide) ?_
                  exact J_218 _ (bI_f (by rw [rWs, ← h_69, ← h_93, ← h_117, ← h_146]; simp [rTr, c_163, c_168]))
                · have c_168 : ¬ (r_146 = 0) := bz0 hz_159 c_168
                  refine lv_lload hx hb dX5_isWithin_171 (lv_at hl 3 rfl) ?_
                  refine lv_lconst (v := 0) hx hb dX5_isWithin_173 (by decide) ?_
                  refine W.lcmp hx hb dX5_isWithin_174 ?_
                  refine lv_if_lt (tgt := 192) hx hb dX5_isWithin_175 (by decide) (fun c_175 => ?_) (fun c_175 => ?_)
                  · have c_175 : r_69 < 0 := (lg_cmp_lt _ _).mp c_175
                    refine lv_lload hx hb dX5_isWithin_192 (lv_at hl 3 rfl) ?_
                    refine lv_lconst (v := 0) hx hb dX5_isWithin_194 (by decide) ?_
                    refine W.lcmp hx hb dX5_isWithin_195 ?_
                    refine lv_if_gt (tgt := 217) hx hb dX5_isWithin_196 (by decide) (fun c_196 => ?_) (fun c_196 => ?_)
                    · have c_196 : 0 < r_69 := (lg_cmp_gt _ _).mp c_196
                      refine lv_iconst (v := 0) hx hb dX5_isWithin_217 (by decide) ?_
                      exact J_218 _ (bI_f (by rw [rWs, ← h_69, ← h_93, ← h_117, ← h_146]; simp [rTr, c_163, c_168, c_175, c_196]))
                    · have c_196 : ¬ (0 < r_69) := fun h => c_196 ((lg_cmp_gt _ _).mpr h)
                      refine lv_lload hx hb dX5_isWithin_199 (lv_at hl 2 rfl) ?_
                      refine lv_lconst (v := 0) hx hb dX5_isWithin_201 (by decide) ?_
                      refine W.lcmp hx hb dX5_isWithin_202 ?_
                      refine lv_if_gt (tgt := 217) hx hb dX5_isWithin_203 (by decide) (fun c_203 => ?_) (fun c_203 => ?_)
                      · have c_203 : 0 < r_93 := (lg_cmp_gt _ _).mp c_203
                        refine lv_iconst (v := 0) hx hb dX5_isWithin_217 (by decide) ?_
                        exact J_218 _ (bI_f (by rw [rWs, ← h_69, ← h_93, ← h_117, ← h_146]; simp [rTr, c_163, c_168, c_175, c_196, c_203]))
                      · have c_203 : ¬ (0 < r_93) := fun h => c_203 ((lg_cmp_gt _ _).mpr h)
                        refine lv_lload hx hb dX5_isWithin_206 (lv_at hl 1 rfl) ?_
                        refine lv_lconst (v := 0) hx hb dX5_isWithin_208 (by decide) ?_
                        refine W.lcmp hx hb dX5_isWithin_209 ?_
                        refine lv_if_gt (tgt := 217) hx hb dX5_isWithin_210 (by decide) (fun c_210 => ?_) (fun c_210 => ?_)
                        · have c_210 : 0 < r_117 := (lg_cmp_gt _ _).mp c_210
                          refine lv_iconst (v := 0) hx hb dX5_isWithin_217 (by decide) ?_
                          exact J_218 _ (bI_f (by rw [rWs, ← h_69, ← h_93, ← h_117, ← h_146]; simp [rTr, c_163, c_168, c_175, c_196, c_203, c_210]))
                        · have c_210 : ¬ (0 < r_117) := fun h => c_210 ((lg_cmp_gt _ _).mpr h)
                          refine lv_iconst (v := 1) hx hb dX5_isWithin_213 (by decide) ?_
                          refine lv_goto (tgt := 218) hx hb dX5_isWithin_214 (by decide) ?_
                          exact J_218 _ (bI_t (by rw [rWs, ← h_69, ← h_93, ← h_117, ← h_146]; simp [rTr, c_163, c_168, c_175, c_196, c_203, c_210]))
                  · have c_175 : ¬ (r_69 < 0) := fun h => c_175 ((lg_cmp_lt _ _).mpr h)
                    refine lv_lload hx hb dX5_isWithin_178 (lv_at hl 2 rfl) ?_
                    refine lv_lconst (v := 0) hx hb dX5_isWithin_180 (by decide) ?_
                    refine W.lcmp hx hb dX5_isWithin_181 ?_
                    refine lv_if_lt (tgt := 192) hx hb dX5_isWithin_182 (by decide) (fun c_182 => ?_) (fun c_182 => ?_)
                    · have c_182 : r_93 < 0 := (lg_cmp_lt _ _).mp c_182
                      refine lv_lload hx hb dX5_isWithin_192 (lv_at hl 3 rfl) ?_
                      refine lv_lconst (v := 0) hx hb dX5_isWithin_194 (by decide) ?_
                      refine W.lcmp hx hb dX5_isWithin_195 ?_
                      refine lv_if_gt (tgt := 217) hx hb dX5_isWithin_196 (by decide) (fun c_196 => ?_) (fun c_196 => ?_)
                      · have c_196 : 0 < r_69 := (lg_cmp_gt _ _).mp c_196
                        refine lv_iconst (v := 0) hx hb dX5_isWithin_217 (by decide) ?_
                        exact J_218 _ (bI_f (by rw [rWs, ← h_69, ← h_93, ← h_117, ← h_146]; simp [rTr, c_163, c_168, c_175, c_182, c_196]))
                      · have c_196 : ¬ (0 < r_69) := fun h => c_196 ((lg_cmp_gt _ _).mpr h)
                        refine lv_lload hx hb dX5_isWithin_199 (lv_at hl 2 rfl) ?_
                        refine lv_lconst (v := 0) hx hb dX5_isWithin_201 (by decide) ?_
                        refine W.lcmp hx hb dX5_isWithin_202 ?_
                        refine lv_if_gt (tgt := 217) hx hb dX5_isWithin_203 (by decide) (fun c_203 => ?_) (fun c_203 => ?_)
                        · have c_203 : 0 < r_93 := (lg_cmp_gt _ _).mp c_203
                          refine lv_iconst (v := 0) hx hb dX5_isWithin_217 (by decide) ?_
                          exact J_218 _ (bI_f (by rw [rWs, ← h_69, ← h_93, ← h_117, ← h_146]; simp [rTr, c_163, c_168, c_175, c_182, c_196, c_203]))
                        · have c_203 : ¬ (0 < r_93) := fun h => c_203 ((lg_cmp_gt _ _).mpr h)
                          refine lv_lload hx hb dX5_isWithin_206 (lv_at hl 1 rfl) ?_
                          refine lv_lconst (v := 0) hx hb dX5_isWithin_208 (by decide) ?_
                          refine W.lcmp hx hb dX5_isWithin_209 ?_
                          refine lv_if_gt (tgt := 217) hx hb dX5_isWithin_210 (by decide) (fun c_210 => ?_) (fun c_210 => ?_)
                          · have c_210 : 0 < r_117 := (lg_cmp_gt _ _).mp c_210
                            refine lv_iconst (v := 0) hx hb dX5_isWithin_217 (by decide) ?_
                            exact J_218 _ (bI_f (by rw [rWs, ← h_69, ← h_93, ← h_117, ← h_146]; simp [rTr, c_163, c_168, c_175, c_182, c_196, c_203, c_210]))
                          · have c_210 : ¬ (0 < r_117) := fun h => c_210 ((lg_cmp_gt _ _).mpr h)
                            refine lv_iconst (v := 1) hx hb dX5_isWithin_213 (by decide) ?_
                            refine lv_goto (tgt := 218) hx hb dX5_isWithin_214 (by decide) ?_
                            exact J_218 _ (bI_t (by rw [rWs, ← h_69, ← h_93, ← h_117, ← h_146]; simp [rTr, c_163, c_168, c_175, c_182, c_196, c_203, c_210]))
                    · have c_182 : ¬ (r_93 < 0) := fun h => c_182 ((lg_cmp_lt _ _).mpr h)
                      refine lv_lload hx hb dX5_isWithin_185 (lv_at hl 1 rfl) ?_
                      refine lv_lconst (v := 0) hx hb dX5_isWithin_187 (by decide) ?_
                      refine W.lcmp hx hb dX5_isWithin_188 ?_
                      refine lv_if_ge (tgt := 213) hx hb dX5_isWithin_189 (by decide) (fun c_189 => ?_) (fun c_189 => ?_)
                      · have c_189 : 0 ≤ r_117 := (lg_cmp_ge _ _).mp c_189
                        refine lv_iconst (v := 1) hx hb dX5_isWithin_213 (by decide) ?_
                        refine lv_goto (tgt := 218) hx hb dX5_isWithin_214 (by decide) ?_
                        exact J_218 _ (bI_t (by rw [rWs, ← h_69, ← h_93, ← h_117, ← h_146]; simp [rTr, c_163, c_168, c_175, c_182, c_189]))
                      · have c_189 : ¬ (0 ≤ r_117) := fun h => c_189 ((lg_cmp_ge _ _).mpr h)
                        refine lv_lload hx hb dX5_isWithin_192 (lv_at hl 3 rfl) ?_
                        refine lv_lconst (v := 0) hx hb dX5_isWithin_194 (by decide) ?_
                        refine W.lcmp hx hb dX5_isWithin_195 ?_
                        refine lv_if_gt (tgt := 217) hx hb dX5_isWithin_196 (by decide) (fun c_196 => ?_) (fun c_196 => ?_)
                        · have c_196 : 0 < r_69 := (lg_cmp_gt _ _).mp c_196
                          refine lv_iconst (v := 0) hx hb dX5_isWithin_217 (by decide) ?_
                          exact J_218 _ (bI_f (by rw [rWs, ← h_69, ← h_93, ← h_117, ← h_146]; simp [rTr, c_163, c_168, c_175, c_182, c_189, c_196]))
                        · have c_196 : ¬ (0 < r_69) := fun h => c_196 ((lg_cmp_gt _ _).mpr h)
                          refine lv_lload hx hb dX5_isWithin_199 (lv_at hl 2 rfl) ?_
                          refine lv_lconst (v := 0) hx hb dX5_isWithin_201 (by decide) ?_
                          refine W.lcmp hx hb dX5_isWithin_202 ?_
                          refine lv_if_gt (tgt := 217) hx hb dX5_isWithin_203 (by decide) (fun c_203 => ?_) (fun c_203 => ?_)
                          · have c_203 : 0 < r_93 := (lg_cmp_gt _ _).mp c_203
                            refine lv_iconst (v := 0) hx hb dX5_isWithin_217 (by decide) ?_
                            exact J_218 _ (bI_f (by rw [rWs, ← h_69, ← h_93, ← h_117, ← h_146]; simp [rTr, c_163, c_168, c_175, c_182, c_189, c_196, c_203]))
                          · have c_203 : ¬ (0 < r_93) := fun h => c_203 ((lg_cmp_gt _ _).mpr h)
                            refine lv_lload hx hb dX5_isWithin_206 (lv_at hl 1 rfl) ?_
                            refine lv_lconst (v := 0) hx hb dX5_isWithin_208 (by decide) ?_
                            refine W.lcmp hx hb dX5_isWithin_209 ?_
                            refine lv_if_gt (tgt := 217) hx hb dX5_isWithin_210 (by decide) (fun c_210 => ?_) (fun c_210 => ?_)
                            · have c_210 : 0 < r_117 := (lg_cmp_gt _ _).mp c_210
                              refine lv_iconst (v := 0) hx hb dX5_isWithin_217 (by decide) ?_
                              exact J_218 _ (bI_f (by rw [rWs, ← h_69, ← h_93, ← h_117, ← h_146]; simp [rTr, c_163, c_168, c_175, c_182, c_189, c_196, c_203, c_210]))
                            · have c_210 : ¬ (0 < r_117) := fun h => c_210 ((lg_cmp_gt _ _).mpr h)
                              refine lv_iconst (v := 1) hx hb dX5_isWithin_213 (by decide) ?_
                              refine lv_goto (tgt := 218) hx hb dX5_isWithin_214 (by decide) ?_
                              exact J_218 _ (bI_t (by rw [rWs, ← h_69, ← h_93, ← h_117, ← h_146]; simp [rTr, c_163, c_168, c_175, c_182, c_189, c_196, c_203, c_210]))
          · refine lv_lconst (v := 0) hx hb dX5_isWithin_149 (by decide) ?_
            refine W.lcmp hx hb dX5_isWithin_150 ?_
            refine lv_if_ne (tgt := 158) hx hb dX5_isWithin_151 (by decide) (fun c_151 => ?_) (fun c_151 => ?_)
            · have c_151 : ¬ (r_146 = 0) := fun h => c_151 ((lg_cmp_eq _ _).mpr h)
              refine lv_iconst (v := 0) hx hb dX5_isWithin_158 (by decide) ?_
              exact J_159 _ (bI_f (by simp [c_151]))
            · have c_151 : r_146 = 0 := (lg_cmp_eq _ _).mp c_151
              refine lv_iconst (v := 1) hx hb dX5_isWithin_154 (by decide) ?_
              refine lv_goto (tgt := 159) hx hb dX5_isWithin_155 (by decide) ?_
              exact J_159 _ (bI_t (by simp [c_151]))
        · refine lv_iload hx hb dX5_isWithin_37 (lv_at hl 3 rfl) ?_
          refine lv_iconst (v := 3) hx hb dX5_isWithin_39 (by decide) ?_
          refine lv_icmp_ge (tgt := 47) hx hb dX5_isWithin_40 (by decide) (fun c_40 => ?_) (fun c_40 => ?_)
          · have c_40 := cle_t (a := 3) (b := o) c_40 (by omega) (by omega)
            refine lv_iconst (v := 2) hx hb dX5_isWithin_47 (by decide) ?_
            exact J_48 _ (by unfold wk; split <;> first | rfl | omega)
          · have c_40 := cle_f (a := 3) (b := o) c_40 (by omega) (by omega)
            refine lv_iconst (v := 3) hx hb dX5_isWithin_43 (by decide) ?_
            refine lv_goto (tgt := 48) hx hb dX5_isWithin_44 (by decide) ?_
            exact J_48 _ (by unfold wk; split <;> first | rfl | omega)
      · refine lv_iload hx hb dX5_isWithin_24 (lv_at hl 2 rfl) ?_
        refine lv_iconst (v := 2) hx hb dX5_isWithin_26 (by decide) ?_
        refine lv_icmp_ge (tgt := 34) hx hb dX5_isWithin_27 (by decide) (fun c_27 => ?_) (fun c_27 => ?_)
        · have c_27 := cle_t (a := 2) (b := o) c_27 (by omega) (by omega)
          refine lv_iconst (v := 1) hx hb dX5_isWithin_34 (by decide) ?_
          exact J_35 _ (by unfold wj; split <;> first | rfl | omega)
        · have c_27 := cle_f (a := 2) (b := o) c_27 (by omega) (by omega)
          refine lv_iconst (v := 2) hx hb dX5_isWithin_30 (by decide) ?_
          refine lv_goto (tgt := 35) hx hb dX5_isWithin_31 (by decide) ?_
          exact J_35 _ (by unfold wj; split <;> first | rfl | omega)
    · refine lv_iload hx hb dX5_isWithin_12 (lv_at hl 1 rfl) ?_
      refine lv_if_ne (tgt := 21) hx hb dX5_isWithin_14 (by decide) (fun c_14 => ?_) (fun c_14 => ?_)
      · have c_14 := ceq_f (a := o) (b := 0) c_14 (by omega) (by omega)
        refine lv_iconst (v := 0) hx hb dX5_isWithin_21 (by decide) ?_
        exact J_22 _ (by unfold wi; split <;> first | rfl | omega)
      · have c_14 := ceq_t (a := o) (b := 0) c_14 (by omega) (by omega)
        refine lv_iconst (v := 1) hx hb dX5_isWithin_17 (by decide) ?_
        refine lv_goto (tgt := 22) hx hb dX5_isWithin_18 (by decide) ?_
        exact J_22 _ (by unfold wi; split <;> first | rfl | omega)


set_option maxHeartbeats 4000000 in
set_option maxRecDepth 100000 in
theorem law_line {p : Program} {l : Launch} {e : Env} {s : State} {m : MethodId} {below : List Frame} {meth : Method} {c : Code} {D : va_G} {cs : Nat → ClassId} {b L Z X i cells slots : Nat} {xs : Nat → Int32} {H : Heap} {locs : List Loc} {ls : Array Slot} {Q : State → Prop} (C : kx D cs p m c cL_law 4 s #[Value.ref b] RL) (hX : va_X b L xs s s.heap) (hbl : b < s.heap.size) (hL : L ≤ 3072) (hi : i + 6 ≤ L) (hcl : cells + 9 ≤ room_1.cells) (hsl : slots + 56 ≤ room_1.slots) (hl : lv_has ls 4 [(3, .int (nI i)), (0, .ref b), (1, .ref Z), (2, .ref X)]) (hI : LI D cs s Z X H locs) (kk : ∀ (H1 : Heap) (locs1 : List Loc), LI D cs s Z X H1 locs1 → W p l e room_1 s m #[Value.ref b] below meth c H1 locs1 (cells + 9) (slots + 56) Q (F0 m 730 ls [])) : W p l e room_1 s m #[Value.ref b] below meth c H locs cells slots Q (F0 m 108 ls []) := by
  have hx := C.1.1
  have hb := C.1.2.1
  have hbA : ¬ aN s b := Nat.not_le.mpr hbl
  obtain ⟨M, N, lab, ad, w, E, J, nn, nb, nc, np, NA, BA, CA, PA, ad2, v, F, G, nl, nm, nw, fp, hS, h2, hC, hR, hP⟩ := hI
  obtain ⟨⟨w6, v0, l4⟩, ⟨w7, v2, n60⟩, ⟨w8, v7, m40⟩, ⟨w9, v13, w12⟩, ⟨w10, v19, c40⟩, w11, ebn, -⟩ := id hP
  obtain ⟨⟨hpb, hp80, hb52⟩, hfp, hpm, hLN, hln⟩ := hP.asks
  obtain ⟨a1, ea1⟩ : ∃ z, xs (nI (i + 1)).toNatClampNeg = z := ⟨_, rfl⟩
  refine lv_aload_n hx hb dL_law_108 rfl (lv_at hl 2 rfl) ?_
  refine lv_aload_n hx hb dL_law_109 rfl (lv_at hl 1 rfl) ?_
  refine lv_iload_n hx hb dL_law_110 rfl (lv_at hl 0 rfl) ?_
  refine lv_iconst (v := 1) hx hb dL_law_111 (by decide) ?_
  refine lv_iadd hx hb dL_law_112 ?_
  refine top_eq (y := nI (i + 1)) (tn_add rfl rfl) ?_
  refine va_sld hx hb hX hbl hbA hS (vp_in_nI (by omega) (by omega)) dL_law_113 ?_
  refine top_eq (y := a1) ea1 ?_
  refine lw_I (As := [.int a1]) (rest := []) C hS h2 st_L_13 (fun A => c_X4_line l D cs A _ Z lab ad w E J nn nb nc np NA BA CA PA hC nl w6 l4 a1) (CSx.z hC) rfl rfl ⟨rfl, rfl, Nat.le_of_ble_eq_true rfl, Nat.le_of_ble_eq_true rfl⟩ rfl hl.1 rfl (Nat.le_of_ble_eq_true rfl) dL_law_114 ⟨by omega, by omega⟩ (fun r_114 M_114 H locs hx1 h2 hS => ?_)
  obtain ⟨w_2, E_2, hC, ex⟩ := hx1
  refine lv_aload_n hx hb dL_law_117 rfl (lv_at hl 3 rfl) ?_
  refine lv_aload_n hx hb dL_law_118 rfl (lv_at hl 1 rfl) ?_
  refine lv_iload_n hx hb dL_law_119 rfl (lv_at hl 0 rfl) ?_
  refine lv_iconst (v := 1) hx hb dL_law_120 (by decide) ?_
  refine lv_iadd hx hb dL_law_121 ?_
  refine top_eq (y := nI (i + 1)) (tn_add rfl rfl) ?_
  refine va_sld hx hb hX hbl hbA hS (vp_in_nI (by omega) (by omega)) dL_law_122 ?_
  refine top_eq (y := a1) ea1 ?_
  refine lw_I (As := [.int a1]) (rest := [.int r_114]) C hS h2.symm st_L_17 (fun A => c_X5_line l D cs A _ X ad2 v F G hR nl v0 l4 a1) hR.1 rfl rfl ⟨rfl, rfl, Nat.le_of_ble_eq_true rfl, Nat.le_of_ble_eq_true rfl⟩ rfl hl.1 rfl (Nat.le_of_ble_eq_true rfl) dL_law_123 ⟨by omega, by omega⟩ (fun r_123 M_123 H locs hy1 h2 hS => ?_)
  have h2 := h2.symm
  obtain ⟨v_2, F_2, hR, ey⟩ := hy1
  obtain ⟨er, nl_2, hP⟩ := cp_line hP ex ey
  refine lv_icmp_eq (tgt := 730) hx hb dL_law_126 (by decide) (fun c_ => ?_) (fun c_ => ?_)
  · refine W.widen (k := cells + 9) (n := slots + 56) (by omega) (by omega) ?_
    exact kk _ _ ⟨_, _, _, _, _, _, _, _, _, _, _, _, _, _, _, _, _, _, _, _, _, _, _, hS, h2, hC, hR, hP⟩
  · exact absurd er c_

set_option maxHeartbeats 4000000 in
set_option maxRecDepth 100000 in
theorem law_note {p : Program} {l : Launch} {e : Env} {s : State} {m : MethodId} {below : List Frame} {meth : Method} {c : Code} {D : va_G} {cs : Nat → ClassId} {b L Z X i cells slots : Nat} {xs : Nat → Int32} {H : Heap} {locs : List Loc} {ls : Array Slot} {Q : State → Prop} (C : kx D cs p m c cL_law 4 s #[Value.ref b] RL) (hX : va_X b L xs s s.heap) (hbl : b < s.heap.size) (hL : L ≤ 3072) (hi : i + 6 ≤ L) (hcl : cells + 9 ≤ room_1.cells) (hsl : slots + 56 ≤ room_1.slots) (hl : lv_has ls 4 [(3, .int (nI i)), (0, .ref b), (1, .ref Z), (2, .ref X)]) (hI : LI D cs s Z X H locs) (kk : ∀ (H1 : Heap) (locs1 : List Loc), LI D cs s Z X H1 locs1 → W p l e room_1 s m #[Value.ref b] below meth c H1 locs1 (cells + 9) (slots + 56) Q (F0 m 730 ls [])) : W p l e room_1 s m #[Value.ref b] below meth c H locs cells slots Q (F0 m 131 ls []) := by
  have hx := C.1.1
  have hb := C.1.2.1
  have hbA : ¬ aN s b := Nat.not_le.mpr hbl
  obtain ⟨M, N, lab, ad, w, E, J, nn, nb, nc, np, NA, BA, CA, PA, ad2, v, F, G, nl, nm, nw, fp, hS, h2, hC, hR, hP⟩ := hI
  obtain ⟨⟨w6, v0, l4⟩, ⟨w7, v2, n60⟩, ⟨w8, v7, m40⟩, ⟨w9, v13, w12⟩, ⟨w10, v19, c40⟩, w11, ebn, -⟩ := id hP
  obtain ⟨⟨hpb, hp80, hb52⟩, hfp, hpm, hLN, hln⟩ := hP.asks
  obtain ⟨a1, ea1⟩ : ∃ z, xs (nI (i + 1)).toNatClampNeg = z := ⟨_, rfl⟩
  obtain ⟨a2, ea2⟩ : ∃ z, xs (nI (i + 2)).toNatClampNeg = z := ⟨_, rfl⟩
  obtain ⟨a3, ea3⟩ : ∃ z, xs (nI (i + 3)).toNatClampNeg = z := ⟨_, rfl⟩
  obtain ⟨a4, ea4⟩ : ∃ z, xs (nI (i + 4)).toNatClampNeg = z := ⟨_, rfl⟩
  refine lv_aload_n hx hb dL_law_131 rfl (lv_at hl 2 rfl) ?_
  refine lv_aload_n hx hb dL_law_132 rfl (lv_at hl 1 rfl) ?_
  refine lv_iload_n hx hb dL_law_133 rfl (lv_at hl 0 rfl) ?_
  refine lv_iconst (v := 1) hx hb dL_law_134 (by decide) ?_
  refine lv_iadd hx hb dL_law_135 ?_
  refine top_eq (y := nI (i + 1)) (tn_add rfl rfl) ?_
  refine va_sld hx hb hX hbl hbA hS (vp_in_nI (by omega) (by omega)) dL_law_136 ?_
  refine top_eq (y := a1) ea1 ?_
  refine lv_aload_n hx hb dL_law_137 rfl (lv_at hl 1 rfl) ?_
  refine lv_iload_n hx hb dL_law_138 rfl (lv_at hl 0 rfl) ?_
  refine lv_iconst (v := 2) hx hb dL_law_139 (by decide) ?_
  refine lv_iadd hx hb dL_law_140 ?_
  refine top_eq (y := nI (i + 2)) (tn_add rfl rfl) ?_
  refine va_sld hx hb hX hbl hbA hS (vp_in_nI (by omega) (by omega)) dL_law_141 ?_
  refine top_eq (y := a2) ea2 ?_
  refine lv_aload_n hx hb dL_law_142 rfl (lv_at hl 1 rfl) ?_
  refine lv_iload_n hx hb dL_law_143 rfl (lv_at hl 0 rfl) ?_
  refine lv_iconst (v := 3) hx hb dL_law_144 (by decide) ?_
  refine lv_iadd hx hb dL_law_145 ?_
  refine top_eq (y := nI (i + 3)) (tn_add rfl rfl) ?_
  refine va_sld hx hb hX hbl hbA hS (vp_in_nI (by omega) (by omega)) dL_law_146 ?_
  refine top_eq (y := a3) ea3 ?_
  refine lv_aload_n hx hb dL_law_147 rfl (lv_at hl 1 rfl) ?_
  refine lv_iload_n hx hb dL_law_148 rfl (lv_at hl 0 rfl) ?_
  refine lv_iconst (v := 4) hx hb dL_law_149 (by decide) ?_
  refine lv_iadd hx hb dL_law_150 ?_
  refine top_eq (y := nI (i + 4)) (tn_add rfl rfl) ?_
  refine va_sld hx hb hX hbl hbA hS (vp_in_nI (by omega) (by omega)) dL_law_151 ?_
  refine top_eq (y := a4) ea4 ?_
  refine W.cut (fun z => z = bI (¬ a4 = 0)) (fun z => F0 m 160 ls (.int z :: [.int a3, .int a2, .int a1, .ref Z])) (fun z_160 hz_160 => ?_) (fun J_160 => ?_)
  · refine lw_I (As := [.int a1, .int a2, .int a3, .int z_160]) (rest := []) C hS h2 st_L_18 (fun A => c_X4_note l D cs A _ Z lab ad w E J nn nb nc np NA BA CA PA hC nl w6 l4 w7 n60 a1 a2 a3 z_160 (bI_01 hz_160)) (CSx.z hC) rfl rfl ⟨rfl, rfl, Nat.le_of_ble_eq_true rfl, Nat.le_of_ble_eq_true rfl⟩ rfl hl.1 rfl (Nat.le_of_ble_eq_true rfl) dL_law_160 ⟨by omega, by omega⟩ (fun r_160 M_160 H locs hx1 h2 hS => ?_)
    obtain ⟨w_2, E_2, n_2, NA_2, hC, ex⟩ := hx1
    refine lv_aload_n hx hb dL_law_163 rfl (lv_at hl 3 rfl) ?_
    refine lv_aload_n hx hb dL_law_164 rfl (lv_at hl 1 rfl) ?_
    refine lv_iload_n hx hb dL_law_165 rfl (lv_at hl 0 rfl) ?_
    refine lv_iconst (v := 1) hx hb dL_law_166 (by decide) ?_
    refine lv_iadd hx hb dL_law_167 ?_
    refine top_eq (y := nI (i + 1)) (tn_add rfl rfl) ?_
    refine va_sld hx hb hX hbl hbA hS (vp_in_nI (by omega) (by omega)) dL_law_168 ?_
    refine top_eq (y := a1) ea1 ?_
    refine lv_aload_n hx hb dL_law_169 rfl (lv_at hl 1 rfl) ?_
    refine lv_iload_n hx hb dL_law_170 rfl (lv_at hl 0 rfl) ?_
    refine lv_iconst (v := 2) hx hb dL_law_171 (by decide) ?_
    refine lv_iadd hx hb dL_law_172 ?_
    refine top_eq (y := nI (i + 2)) (tn_add rfl rfl) ?_
    refine va_sld hx hb hX hbl hbA hS (vp_in_nI (by omega) (by omega)) dL_law_173 ?_
    refine top_eq (y := a2) ea2 ?_
    refine lv_aload_n hx hb dL_law_174 rfl (lv_at hl 1 rfl) ?_
    refine lv_iload_n hx hb dL_law_175 rfl (lv_at hl 0 rfl) ?_
    refine lv_iconst (v := 3) hx hb dL_law_176 (by decide) ?_
    refine lv_iadd hx hb dL_law_177 ?_
    refine top_eq (y := nI (i + 3)) (tn_add rfl rfl) ?_
    refine va_sld hx hb hX hbl hbA hS (vp_in_nI (by omega) (by omega)) dL_law_178 ?_
    refine top_eq (y := a3) ea3 ?_
    refine lv_aload_n hx hb dL_law_179 rfl (lv_at hl 1 rfl) ?_
    refine lv_iload_n hx hb dL_law_180 rfl (lv_at hl 0 rfl) ?_
    refine lv_iconst (v := 4) hx hb dL_law_181 (by decide) ?_
    refine lv_iadd hx hb dL_law_182 ?_
    refine top_eq (y := nI (i + 4)) (tn_add rfl rfl) ?_
    refine va_sld hx hb hX hbl hbA hS (vp_in_nI (by omega) (by omega)) dL_law_183 ?_
    refine top_eq (y := a4) ea4 ?_
    refine W.cut (fun z => z = bI (¬ a4 = 0)) (fun z => F0 m 192 ls (.int z :: [.int a3, .int a2, .int a1, .ref X, .int r_160])) (fun z_192 hz_192 => ?_) (fun J_192 => ?_)
    · refine lw_I (As := [.int a1, .int a2, .int a3, .int z_192]) (rest := [.int r_160]) C hS h2.symm st_L_22 (fun A => c_X5_note l D cs A _ X ad2 v F G hR nl nn v0 l4 v2 n60 a1 a2 a3 z_192 (bI_01 hz_192)) hR.1 rfl rfl ⟨rfl, rfl, Nat.le_of_ble_eq_true rfl, Nat.le_of_ble_eq_true rfl⟩ rfl hl.1 rfl (Nat.le_of_ble_eq_true rfl) dL_law_192 ⟨by omega, by omega⟩ (fun r_192 M_192 H locs hy1 h2 hS => ?_)
      have h2 := h2.symm
      obtain ⟨v_2, F_2, hR, ey⟩ := hy1
      rw [show z_192 = z_160 from hz_192.trans hz_160.symm] at ey
      obtain ⟨er, hP⟩ := cp_note hP (bI_01 hz_160) ex ey
      refine lv_icmp_eq (tgt := 730) hx hb dL_law_195 (by decide) (fun c_ => ?_) (fun c_ => ?_)
      · refine W.widen (k := cells + 9) (n := slots + 56) (by omega) (by omega) ?_
        exact kk _ _ ⟨_, _, _, _, _, _, _, _, _, _, _, _, _, _, _, _, _, _, _, _, _, _, _, hS, h2, hC, hR, hP⟩
      · exact absurd er c_
    · refine lv_if_eq (tgt := 191) hx hb dL_law_184 (by decide) (fun c_184 => ?_) (fun c_184 => ?_)
      · refine lv_iconst (v := 0) hx hb dL_law_191 (by decide) ?_
        exact J_192 _ (bI_f (fun z => z c_184))
      · refine lv_iconst (v := 1) hx hb dL_law_187 (by decide) ?_
        refine lv_goto (tgt := 192) hx hb dL_law_188 (by decide) ?_
        exact J_192 _ (bI_t c_184)
  · refine lv_if_eq (tgt := 159) hx hb dL_law_152 (by decide) (fun c_152 => ?_) (fun c_152 => ?_)
    · refine lv_iconst (v := 0) hx hb dL_law_159 (by decide) ?_
      exact J_160 _ (bI_f (fun z => z c_152))
    · refine lv_iconst (v := 1) hx hb dL_law_155 (by decide) ?_
      refine lv_goto (tgt := 160) hx hb dL_law_156 (by decide) ?_
      exact J_160 _ (bI_t c_152)

set_option maxHeartbeats 4000000 in
set_option maxRecDepth 100000 in
theorem law_mark {p : Program} {l : Launch} {e : Env} {s : State} {m : MethodId} {below : List Frame} {meth : Method} {c : Code} {D : va_G} {cs : Nat → ClassId} {b L Z X i cells slots : Nat} {xs : Nat → Int32} {H : Heap} {locs : List Loc} {ls : Array Slot} {Q : State → Prop} (C : kx D cs p m c cL_law 4 s #[Value.ref b] RL) (hX : va_X b L xs s s.heap) (hbl : b < s.heap.size) (hL : L ≤ 3072) (hi : i + 6 ≤ L) (hcl : cells + 9 ≤ room_1.cells) (hsl : slots + 56 ≤ room_1.slots) (hl : lv_has ls 4 [(3, .int (nI i)), (0, .ref b), (1, .ref Z), (2, .ref X)]) (hI : LI D cs s Z X H locs) (kk : ∀ (H1 : Heap) (locs1 : List Loc), LI D cs s Z X H1 locs1 → W p l e room_1 s m #[Value.ref b] below meth c H1 locs1 (cells + 9) (slots + 56) Q (F0 m 730 ls [])) : W p l e room_1 s m #[Value.ref b] below meth c H locs cells slots Q (F0 m 200 ls []) := by
  have hx := C.1.1
  have hb := C.1.2.1
  have hbA : ¬ aN s b := Nat.not_le.mpr hbl
  obtain ⟨M, N, lab, ad, w, E, J, nn, nb, nc, np, NA, BA, CA, PA, ad2, v, F, G, nl, nm, nw, fp, hS, h2, hC, hR, hP⟩ := hI
  obtain ⟨⟨w6, v0, l4⟩, ⟨w7, v2, n60⟩, ⟨w8, v7, m40⟩, ⟨w9, v13, w12⟩, ⟨w10, v19, c40⟩, w11, ebn, -⟩ := id hP
  obtain ⟨⟨hpb, hp80, hb52⟩, hfp, hpm, hLN, hln⟩ := hP.asks
  obtain ⟨a1, ea1⟩ : ∃ z, xs (nI (i + 1)).toNatClampNeg = z := ⟨_, rfl⟩
  obtain ⟨a2, ea2⟩ : ∃ z, xs (nI (i + 2)).toNatClampNeg = z := ⟨_, rfl⟩
  obtain ⟨a3, ea3⟩ : ∃ z, xs (nI (i + 3)).toNatClampNeg = z := ⟨_, rfl⟩
  obtain ⟨a4, ea4⟩ : ∃ z, xs (nI (i + 4)).toNatClampNeg = z := ⟨_, rfl⟩
  obtain ⟨a5, ea5⟩ : ∃ z, xs (nI (i + 5)).toNatClampNeg = z := ⟨_, rfl⟩
  refine lv_aload_n hx hb dL_law_200 rfl (lv_at hl 2 rfl) ?_
  refine lv_aload_n hx hb dL_law_201 rfl (lv_at hl 1 rfl) ?_
  refine lv_iload_n hx hb dL_law_202 rfl (lv_at hl 0 rfl) ?_
  refine lv_iconst (v := 1) hx hb dL_law_203 (by decide) ?_
  refine lv_iadd hx hb dL_law_204 ?_
  refine top_eq (y := nI (i + 1)) (tn_add rfl rfl) ?_
  refine va_sld hx hb hX hbl hbA hS (vp_in_nI (by omega) (by omega)) dL_law_205 ?_
  refine top_eq (y := a1) ea1 ?_
  refine lv_aload_n hx hb dL_law_206 rfl (lv_at hl 1 rfl) ?_
  refine lv_iload_n hx hb dL_law_207 rfl (lv_at hl 0 rfl) ?_
  refine lv_iconst (v := 2) hx hb dL_law_208 (by decide) ?_
  refine lv_iadd hx hb dL_law_209 ?_
  refine top_eq (y := nI (i + 2)) (tn_add rfl rfl) ?_
  refine va_sld hx hb hX hbl hbA hS (vp_in_nI (by omega) (by omega)) dL_law_210 ?_
  refine top_eq (y := a2) ea2 ?_
  refine lv_aload_n hx hb dL_law_211 rfl (lv_at hl 1 rfl) ?_
  refine lv_iload_n hx hb dL_law_212 rfl (lv_at hl 0 rfl) ?_
  refine lv_iconst (v := 3) hx hb dL_law_213 (by decide) ?_
  refine lv_iadd hx hb dL_law_214 ?_
  refine top_eq (y := nI (i + 3)) (tn_add rfl rfl) ?_
  refine va_sld hx hb hX hbl hbA hS (vp_in_nI (by omega) (by omega)) dL_law_215 ?_
  refine top_eq (y := a3) ea3 ?_
  refine lv_aload_n hx hb dL_law_216 rfl (lv_at hl 1 rfl) ?_
  refine lv_iload_n hx hb dL_law_217 rfl (lv_at hl 0 rfl) ?_
  refine lv_iconst (v := 4) hx hb dL_law_218 (by decide) ?_
  refine lv_iadd hx hb dL_law_219 ?_
  refine top_eq (y := nI (i + 4)) (tn_add rfl rfl) ?_
  refine va_sld hx hb hX hbl hbA hS (vp_in_nI (by omega) (by omega)) dL_law_220 ?_
  refine top_eq (y := a4) ea4 ?_
  refine lv_aload_n hx hb dL_law_221 rfl (lv_at hl 1 rfl) ?_
  refine lv_iload_n hx hb dL_law_222 rfl (lv_at hl 0 rfl) ?_
  refine lv_iconst (v := 5) hx hb dL_law_223 (by decide) ?_
  refine lv_iadd hx hb dL_law_224 ?_
  refine top_eq (y := nI (i + 5)) (tn_add rfl rfl) ?_
  refine va_sld hx hb hX hbl hbA hS (vp_in_nI (by omega) (by omega)) dL_law_225 ?_
  refine top_eq (y := a5) ea5 ?_
  refine lw_I (As := [.int a1, .int a2, .int a3, .int a4, .int a5]) (rest := []) C hS h2 st_L_23 (fun A => c_X4_mark l D cs A _ Z lab ad w E J nn nb nc np NA BA CA PA hC nl nm nw w6 l4 w8 m40 w9 w12 ebn a1 a2 a3 a4 a5) (CSx.z hC) rfl rfl ⟨rfl, rfl, Nat.le_of_ble_eq_true rfl, Nat.le_of_ble_eq_true rfl⟩ rfl hl.1 rfl (Nat.le_of_ble_eq_true rfl) dL_law_226 ⟨by omega, by omega⟩ (fun r_226 M_226 H locs hx1 h2 hS => ?_)
  obtain ⟨lab_2, w_2, E_2, J_2, n_2, BA_2, hC, ex⟩ := hx1
  refine lv_aload_n hx hb dL_law_229 rfl (lv_at hl 3 rfl) ?_
  refine lv_aload_n hx hb dL_law_230 rfl (lv_at hl 1 rfl) ?_
  refine lv_iload_n hx hb dL_law_231 rfl (lv_at hl 0 rfl) ?_
  refine lv_iconst (v := 1) hx hb dL_law_232 (by decide) ?_
  refine lv_iadd hx hb dL_law_233 ?_
  refine top_eq (y := nI (i + 1)) (tn_add rfl rfl) ?_
  refine va_sld hx hb hX hbl hbA hS (vp_in_nI (by omega) (by omega)) dL_law_234 ?_
  refine top_eq (y := a1) ea1 ?_
  refine lv_aload_n hx hb dL_law_235 rfl (lv_at hl 1 rfl) ?_
  refine lv_iload_n hx hb dL_law_236 rfl (lv_at hl 0 rfl) ?_
  refine lv_iconst (v := 2) hx hb dL_law_237 (by decide) ?_
  refine lv_iadd hx hb dL_law_238 ?_
  refine top_eq (y := nI (i + 2)) (tn_add rfl rfl) ?_
  refine va_sld hx hb hX hbl hbA hS (vp_in_nI (by omega) (by omega)) dL_law_239 ?_
  refine top_eq (y := a2) ea2 ?_
  refine lv_aload_n hx hb dL_law_240 rfl (lv_at hl 1 rfl) ?_
  refine lv_iload_n hx hb dL_law_241 rfl (lv_at hl 0 rfl) ?_
  refine lv_iconst (v := 3) hx hb dL_law_242 (by decide) ?_
  refine lv_iadd hx hb dL_law_243 ?_
  refine top_eq (y := nI (i + 3)) (tn_add rfl rfl) ?_
  refine va_sld hx hb hX hbl hbA hS (vp_in_nI (by omega) (by omega)) dL_law_244 ?_
  refine top_eq (y := a3) ea3 ?_
  refine lv_aload_n hx hb dL_law_245 rfl (lv_at hl 1 rfl) ?_
  refine lv_iload_n hx hb dL_law_246 rfl (lv_at hl 0 rfl) ?_
  refine lv_iconst (v := 4) hx hb dL_law_247 (by decide) ?_
  refine lv_iadd hx hb dL_law_248 ?_
  refine top_eq (y := nI (i + 4)) (tn_add rfl rfl) ?_
  refine va_sld hx hb hX hbl hbA hS (vp_in_nI (by omega) (by omega)) dL_law_249 ?_
  refine top_eq (y := a4) ea4 ?_
  refine lv_aload_n hx hb dL_law_250 rfl (lv_at hl 1 rfl) ?_
  refine lv_iload_n hx hb dL_law_251 rfl (lv_at hl 0 rfl) ?_
  refine lv_iconst (v := 5) hx hb dL_law_252 (by decide) ?_
  refine lv_iadd hx hb dL_law_253 ?_
  refine top_eq (y := nI (i + 5)) (tn_add rfl rfl) ?_
  refine va_sld hx hb hX hbl hbA hS (vp_in_nI (by omega) (by omega)) dL_law_254 ?_
  refine top_eq (y := a5) ea5 ?_
  refine lw_I (As := [.int a1, .int a2, .int a3, .int a4, .int a5]) (rest := [.int r_226]) C hS h2.symm st_L_27 (fun A => c_X5_mark l D cs A _ X ad2 v F G hR nl nm v0 l4 v7 m40 a1 a2 a3 a4 a5) hR.1 rfl rfl ⟨rfl, rfl, Nat.le_of_ble_eq_true rfl, Nat.le_of_ble_eq_true rfl⟩ rfl hl.1 rfl (Nat.le_of_ble_eq_true rfl) dL_law_255 ⟨by omega, by omega⟩ (fun r_255 M_255 H locs hy1 h2 hS => ?_)
  have h2 := h2.symm
  obtain ⟨v_2, F_2, hR, ey⟩ := hy1
  obtain ⟨er, nm_2, hP⟩ := cp_mark hP ex ey
  refine lv_icmp_eq (tgt := 730) hx hb dL_law_258 (by decide) (fun c_ => ?_) (fun c_ => ?_)
  · refine W.widen (k := cells + 9) (n := slots + 56) (by omega) (by omega) ?_
    exact kk _ _ ⟨_, _, _, _, _, _, _, _, _, _, _, _, _, _, _, _, _, _, _, _, _, _, _, hS, h2, hC, hR, hP⟩
  · exact absurd er c_

set_option maxHeartbeats 4000000 in
set_option maxRecDepth 100000 in
theorem law_wedge {p : Program} {l : Launch} {e : Env} {s : State} {m : MethodId} {below : List Frame} {meth : Method} {c : Code} {D : va_G} {cs : Nat → ClassId} {b L Z X i cells slots : Nat} {xs : Nat → Int32} {H : Heap} {locs : List Loc} {ls : Array Slot} {Q : State → Prop} (C : kx D cs p m c cL_law 4 s #[Value.ref b] RL) (hX : va_X b L xs s s.heap) (hbl : b < s.heap.size) (hL : L ≤ 3072) (hi : i + 6 ≤ L) (hcl : cells + 9 ≤ room_1.cells) (hsl : slots + 56 ≤ room_1.slots) (hl : lv_has ls 4 [(3, .int (nI i)), (0, .ref b), (1, .ref Z), (2, .ref X)]) (hI : LI D cs s Z X H locs) (kk : ∀ (H1 : Heap) (locs1 : List Loc), LI D cs s Z X H1 locs1 → W p l e room_1 s m #[Value.ref b] below meth c H1 locs1 (cells + 9) (slots + 56) Q (F0 m 730 ls [])) : W p l e room_1 s m #[Value.ref b] below meth c H locs cells slots Q (F0 m 263 ls []) := by
  have hx := C.1.1
  have hb := C.1.2.1
  have hbA : ¬ aN s b := Nat.not_le.mpr hbl
  obtain ⟨M, N, lab, ad, w, E, J, nn, nb, nc, np, NA, BA, CA, PA, ad2, v, F, G, nl, nm, nw, fp, hS, h2, hC, hR, hP⟩ := hI
  obtain ⟨⟨w6, v0, l4⟩, ⟨w7, v2, n60⟩, ⟨w8, v7, m40⟩, ⟨w9, v13, w12⟩, ⟨w10, v19, c40⟩, w11, ebn, -⟩ := id hP
  obtain ⟨⟨hpb, hp80, hb52⟩, hfp, hpm, hLN, hln⟩ := hP.asks
  obtain ⟨a1, ea1⟩ : ∃ z, xs (nI (i + 1)).toNatClampNeg = z := ⟨_, rfl⟩
  obtain ⟨a2, ea2⟩ : ∃ z, xs (nI (i + 2)).toNatClampNeg = z := ⟨_, rfl⟩
  obtain ⟨a3, ea3⟩ : ∃ z, xs (nI (i + 3)).toNatClampNeg = z := ⟨_, rfl⟩
  obtain ⟨a4, ea4⟩ : ∃ z, xs (nI (i + 4)).toNatClampNeg = z := ⟨_, rfl⟩
  obtain ⟨a5, ea5⟩ : ∃ z, xs (nI (i + 5)).toNatClampNeg = z := ⟨_, rfl⟩
  refine lv_aload_n hx hb dL_law_263 rfl (lv_at hl 2 rfl) ?_
  refine lv_aload_n hx hb dL_law_264 rfl (lv_at hl 1 rfl) ?_
  refine lv_iload_n hx hb dL_law_265 rfl (lv_at hl 0 rfl) ?_
  refine lv_iconst (v := 1) hx hb dL_law_266 (by decide) ?_
  refine lv_iadd hx hb dL_law_267 ?_
  refine top_eq (y := nI (i + 1)) (tn_add rfl rfl) ?_
  refine va_sld hx hb hX hbl hbA hS (vp_in_nI (by omega) (by omega)) dL_law_268 ?_
  refine top_eq (y := a1) ea1 ?_
  refine lv_aload_n hx hb dL_law_269 rfl (lv_at hl 1 rfl) ?_
  refine lv_iload_n hx hb dL_law_270 rfl (lv_at hl 0 rfl) ?_
  refine lv_iconst (v := 2) hx hb dL_law_271 (by decide) ?_
  refine lv_iadd hx hb dL_law_272 ?_
  refine top_eq (y := nI (i + 2)) (tn_add rfl rfl) ?_
  refine va_sld hx hb hX hbl hbA hS (vp_in_nI (by omega) (by omega)) dL_law_273 ?_
  refine top_eq (y := a2) ea2 ?_
  refine lv_aload_n hx hb dL_law_274 rfl (lv_at hl 1 rfl) ?_
  refine lv_iload_n hx hb dL_law_275 rfl (lv_at hl 0 rfl) ?_
  refine lv_iconst (v := 3) hx hb dL_law_276 (by decide) ?_
  refine lv_iadd hx hb dL_law_277 ?_
  refine top_eq (y := nI (i + 3)) (tn_add rfl rfl) ?_
  refine va_sld hx hb hX hbl hbA hS (vp_in_nI (by omega) (by omega)) dL_law_278 ?_
  refine top_eq (y := a3) ea3 ?_
  refine lv_aload_n hx hb dL_law_279 rfl (lv_at hl 1 rfl) ?_
  refine lv_iload_n hx hb dL_law_280 rfl (lv_at hl 0 rfl) ?_
  refine lv_iconst (v := 4) hx hb dL_law_281 (by decide) ?_
  refine lv_iadd hx hb dL_law_282 ?_
  refine top_eq (y := nI (i + 4)) (tn_add rfl rfl) ?_
  refine va_sld hx hb hX hbl hbA hS (vp_in_nI (by omega) (by omega)) dL_law_283 ?_
  refine top_eq (y := a4) ea4 ?_
  refine lv_aload_n hx hb dL_law_284 rfl (lv_at hl 1 rfl) ?_
  refine lv_iload_n hx hb dL_law_285 rfl (lv_at hl 0 rfl) ?_
  refine lv_iconst (v := 5) hx hb dL_law_286 (by decide) ?_
  refine lv_iadd hx hb dL_law_287 ?_
  refine top_eq (y := nI (i + 5)) (tn_add rfl rfl) ?_
  refine va_sld hx hb hX hbl hbA hS (vp_in_nI (by omega) (by omega)) dL_law_288 ?_
  refine top_eq (y := a5) ea5 ?_
  refine lw_I (As := [.int a1, .int a2, .int a3, .int a4, .int a5]) (rest := []) C hS h2 st_L_28 (fun A => c_X4_wedge l D cs A _ Z lab ad w E J nn nb nc np NA BA CA PA hC nl nm nw w6 l4 w8 m40 w9 w12 ebn a1 a2 a3 a4 a5) (CSx.z hC) rfl rfl ⟨rfl, rfl, Nat.le_of_ble_eq_true rfl, Nat.le_of_ble_eq_true rfl⟩ rfl hl.1 rfl (Nat.le_of_ble_eq_true rfl) dL_law_289 ⟨by omega, by omega⟩ (fun r_289 M_289 H locs hx1 h2 hS => ?_)
  obtain ⟨lab_2, w_2, E_2, J_2, n_2, BA_2, hC, ex⟩ := hx1
  refine lv_aload_n hx hb dL_law_292 rfl (lv_at hl 3 rfl) ?_
  refine lv_aload_n hx hb dL_law_293 rfl (lv_at hl 1 rfl) ?_
  refine lv_iload_n hx hb dL_law_294 rfl (lv_at hl 0 rfl) ?_
  refine lv_iconst (v := 1) hx hb dL_law_295 (by decide) ?_
  refine lv_iadd hx hb dL_law_296 ?_
  refine top_eq (y := nI (i + 1)) (tn_add rfl rfl) ?_
  refine va_sld hx hb hX hbl hbA hS (vp_in_nI (by omega) (by omega)) dL_law_297 ?_
  refine top_eq (y := a1) ea1 ?_
  refine lv_aload_n hx hb dL_law_298 rfl (lv_at hl 1 rfl) ?_
  refine lv_iload_n hx hb dL_law_299 rfl (lv_at hl 0 rfl) ?_
  refine lv_iconst (v := 2) hx hb dL_law_300 (by decide) ?_
  refine lv_iadd hx hb dL_law_301 ?_
  refine top_eq (y := nI (i + 2)) (tn_add rfl rfl) ?_
  refine va_sld hx hb hX hbl hbA hS (vp_in_nI (by omega) (by omega)) dL_law_302 ?_
  refine top_eq (y := a2) ea2 ?_
  refine lv_aload_n hx hb dL_law_303 rfl (lv_at hl 1 rfl) ?_
  refine lv_iload_n hx hb dL_law_304 rfl (lv_at hl 0 rfl) ?_
  refine lv_iconst (v := 3) hx hb dL_law_305 (by decide) ?_
  refine lv_iadd hx hb dL_law_306 ?_
  refine top_eq (y := nI (i + 3)) (tn_add rfl rfl) ?_
  refine va_sld hx hb hX hbl hbA hS (vp_in_nI (by omega) (by omega)) dL_law_307 ?_
  refine top_eq (y := a3) ea3 ?_
  refine lv_aload_n hx hb dL_law_308 rfl (lv_at hl 1 rfl) ?_
  refine lv_iload_n hx hb dL_law_309 rfl (lv_at hl 0 rfl) ?_
  refine lv_iconst (v := 4) hx hb dL_law_310 (by decide) ?_
  refine lv_iadd hx hb dL_law_311 ?_
  refine top_eq (y := nI (i + 4)) (tn_add rfl rfl) ?_
  refine va_sld hx hb hX hbl hbA hS (vp_in_nI (by omega) (by omega)) dL_law_312 ?_
  refine top_eq (y := a4) ea4 ?_
  refine lv_aload_n hx hb dL_law_313 rfl (lv_at hl 1 rfl) ?_
  refine lv_iload_n hx hb dL_law_314 rfl (lv_at hl 0 rfl) ?_
  refine lv_iconst (v := 5) hx hb dL_law_315 (by decide) ?_
  refine lv_iadd hx hb dL_law_316 ?_
  refine top_eq (y := nI (i + 5)) (tn_add rfl rfl) ?_
  refine va_sld hx hb hX hbl hbA hS (vp_in_nI (by omega) (by omega)) dL_law_317 ?_
  refine top_eq (y := a5) ea5 ?_
  refine lw_I (As := [.int a1, .int a2, .int a3, .int a4, .int a5]) (rest := [.int r_289]) C hS h2.symm st_L_31 (fun A => c_X5_wedge l D cs A _ X ad2 v F G hR nl nw v0 l4 v13 w12 a1 a2 a3 a4 a5) hR.1 rfl rfl ⟨rfl, rfl, Nat.le_of_ble_eq_true rfl, Nat.le_of_ble_eq_true rfl⟩ rfl hl.1 rfl (Nat.le_of_ble_eq_true rfl) dL_law_318 ⟨by omega, by omega⟩ (fun r_318 M_318 H locs hy1 h2 hS => ?_)
  have h2 := h2.symm
  obtain ⟨v_2, F_2, hR, ey⟩ := hy1
  obtain ⟨er, nw_2, hP⟩ := cp_wedge hP ex ey
  refine lv_icmp_eq (tgt := 730) hx hb dL_law_321 (by decide) (fun c_ => ?_) (fun c_ => ?_)
  · refine W.widen (k := cells + 9) (n := slots + 56) (by omega) (by omega) ?_
    exact kk _ _ ⟨_, _, _, _, _, _, _, _, _, _, _, _, _, _, _, _, _, _, _, _, _, _, _, hS, h2, hC, hR, hP⟩
  · exact absurd er c_

set_option maxHeartbeats 4000000 in
set_option maxRecDepth 100000 in
theorem law_tie {p : Program} {l : Launch} {e : Env} {s : State} {m : MethodId} {below : List Frame} {meth : Method} {c : Code} {D : va_G} {cs : Nat → ClassId} {b L Z X i cells slots : Nat} {xs : Nat → Int32} {H : Heap} {locs : List Loc} {ls : Array Slot} {Q : State → Prop} (C : kx D cs p m c cL_law 4 s #[Value.ref b] RL) (hX : va_X b L xs s s.heap) (hbl : b < s.heap.size) (hL : L ≤ 3072) (hi : i + 6 ≤ L) (hcl : cells + 9 ≤ room_1.cells) (hsl : slots + 56 ≤ room_1.slots) (hl : lv_has ls 4 [(3, .int (nI i)), (0, .ref b), (1, .ref Z), (2, .ref X)]) (hI : LI D cs s Z X H locs) (kk : ∀ (H1 : Heap) (locs1 : List Loc), LI D cs s Z X H1 locs1 → W p l e room_1 s m #[Value.ref b] below meth c H1 locs1 (cells + 9) (slots + 56) Q (F0 m 730 ls [])) : W p l e room_1 s m #[Value.ref b] below meth c H locs cells slots Q (F0 m 326 ls []) := by
  have hx := C.1.1
  have hb := C.1.2.1
  have hbA : ¬ aN s b := Nat.not_le.mpr hbl
  obtain ⟨M, N, lab, ad, w, E, J, nn, nb, nc, np, NA, BA, CA, PA, ad2, v, F, G, nl, nm, nw, fp, hS, h2, hC, hR, hP⟩ := hI
  obtain ⟨⟨w6, v0, l4⟩, ⟨w7, v2, n60⟩, ⟨w8, v7, m40⟩, ⟨w9, v13, w12⟩, ⟨w10, v19, c40⟩, w11, ebn, -⟩ := id hP
  obtain ⟨⟨hpb, hp80, hb52⟩, hfp, hpm, hLN, hln⟩ := hP.asks
  obtain ⟨a1, ea1⟩ : ∃ z, xs (nI (i + 1)).toNatClampNeg = z := ⟨_, rfl⟩
  obtain ⟨a2, ea2⟩ : ∃ z, xs (nI (i + 2)).toNatClampNeg = z := ⟨_, rfl⟩
  refine lv_aload_n hx hb dL_law_326 rfl (lv_at hl 2 rfl) ?_
  refine lv_aload_n hx hb dL_law_327 rfl (lv_at hl 1 rfl) ?_
  refine lv_iload_n hx hb dL_law_328 rfl (lv_at hl 0 rfl) ?_
  refine lv_iconst (v := 1) hx hb dL_law_329 (by decide) ?_
  refine lv_iadd hx hb dL_law_330 ?_
  refine top_eq (y := nI (i + 1)) (tn_add rfl rfl) ?_
  refine va_sld hx hb hX hbl hbA hS (vp_in_nI (by omega) (by omega)) dL_law_331 ?_
  refine top_eq (y := a1) ea1 ?_
  refine lv_aload_n hx hb dL_law_332 rfl (lv_at hl 1 rfl) ?_
  refine lv_iload_n hx hb dL_law_333 rfl (lv_at hl 0 rfl) ?_
  refine lv_iconst (v := 2) hx hb dL_law_334 (by decide) ?_
  refine lv_iadd hx hb dL_law_335 ?_
  refine top_eq (y := nI (i + 2)) (tn_add rfl rfl) ?_
  refine va_sld hx hb hX hbl hbA hS (vp_in_nI (by omega) (by omega)) dL_law_336 ?_
  refine top_eq (y := a2) ea2 ?_
  refine lw_I (As := [.int a1, .int a2]) (rest := []) C hS h2 st_L_32 (fun A => c_X4_tie l D cs A _ Z lab ad w E J nn nb nc np NA BA CA PA hC w7 n60 w10 c40 hpb nm nw w8 w9 ebn hb52 w11 hp80 hLN a1 a2) (CSx.z hC) rfl rfl ⟨rfl, rfl, Nat.le_of_ble_eq_true rfl, Nat.le_of_ble_eq_true rfl⟩ rfl hl.1 rfl (Nat.le_of_ble_eq_true rfl) dL_law_337 ⟨by omega, by omega⟩ (fun r_337 M_337 H locs hx1 h2 hS => ?_)
  obtain ⟨lab_2, w_2, E_2, J_2, nc_2, np_2, CA_2, PA_2, hC, ex⟩ := hx1
  refine lv_aload_n hx hb dL_law_340 rfl (lv_at hl 3 rfl) ?_
  refine lv_aload_n hx hb dL_law_341 rfl (lv_at hl 1 rfl) ?_
  refine lv_iload_n hx hb dL_law_342 rfl (lv_at hl 0 rfl) ?_
  refine lv_iconst (v := 1) hx hb dL_law_343 (by decide) ?_
  refine lv_iadd hx hb dL_law_344 ?_
  refine top_eq (y := nI (i + 1)) (tn_add rfl rfl) ?_
  refine va_sld hx hb hX hbl hbA hS (vp_in_nI (by omega) (by omega)) dL_law_345 ?_
  refine top_eq (y := a1) ea1 ?_
  refine lv_aload_n hx hb dL_law_346 rfl (lv_at hl 1 rfl) ?_
  refine lv_iload_n hx hb dL_law_347 rfl (lv_at hl 0 rfl) ?_
  refine lv_iconst (v := 2) hx hb dL_law_348 (by decide) ?_
  refine lv_iadd hx hb dL_law_349 ?_
  refine top_eq (y := nI (i + 2)) (tn_add rfl rfl) ?_
  refine va_sld hx hb hX hbl hbA hS (vp_in_nI (by omega) (by omega)) dL_law_350 ?_
  refine top_eq (y := a2) ea2 ?_
  refine lw_I (As := [.int a1, .int a2]) (rest := [.int r_337]) C hS h2.symm st_L_36 (fun A => c_X5_tie l D cs A _ X ad2 v F G hR nn nm nw nc v2 n60 v7 m40 v13 w12 v19 c40 hln a1 a2) hR.1 rfl rfl ⟨rfl, rfl, Nat.le_of_ble_eq_true rfl, Nat.le_of_ble_eq_true rfl⟩ rfl hl.1 rfl (Nat.le_of_ble_eq_true rfl) dL_law_351 ⟨by omega, by omega⟩ (fun r_351 M_351 H locs hy1 h2 hS => ?_)
  have h2 := h2.symm
  obtain ⟨v_2, F_2, G_2, hR, ey⟩ := hy1
  obtain ⟨er, fp_2, hP⟩ := cp_comes hP (Or.inr rfl) ex ey
  refine lv_icmp_eq (tgt := 730) hx hb dL_law_354 (by decide) (fun c_ => ?_) (fun c_ => ?_)
  · refine W.widen (k := cells + 9) (n := slots + 56) (by omega) (by omega) ?_
    exact kk _ _ ⟨_, _, _, _, _, _, _, _, _, _, _, _, _, _, _, _, _, _, _, _, _, _, _, hS, h2, hC, hR, hP⟩
  · exact absurd er c_

set_option maxHeartbeats 4000000 in
set_option maxRecDepth 100000 in
theorem law_slur {p : Program} {l : Launch} {e : Env} {s : State} {m : MethodId} {below : List Frame} {meth : Method} {c : Code} {D : va_G} {cs : Nat → ClassId} {b L Z X i cells slots : Nat} {xs : Nat → Int32} {H : Heap} {locs : List Loc} {ls : Array Slot} {Q : State → Prop} (C : kx D cs p m c cL_law 4 s #[Value.ref b] RL) (hX : va_X b L xs s s.heap) (hbl : b < s.heap.size) (hL : L ≤ 3072) (hi : i + 6 ≤ L) (hcl : cells + 9 ≤ room_1.cells) (hsl : slots + 56 ≤ room_1.slots) (hl : lv_has ls 4 [(3, .int (nI i)), (0, .ref b), (1, .ref Z), (2, .ref X)]) (hI : LI D cs s Z X H locs) (kk : ∀ (H1 : Heap) (locs1 : List Loc), LI D cs s Z X H1 locs1 → W p l e room_1 s m #[Value.ref b] below meth c H1 locs1 (cells + 9) (slots + 56) Q (F0 m 730 ls [])) : W p l e room_1 s m #[Value.ref b] below meth c H locs cells slots Q (F0 m 359 ls []) := by
  have hx := C.1.1
  have hb := C.1.2.1
  have hbA : ¬ aN s b := Nat.not_le.mpr hbl
  obtain ⟨M, N, lab, ad, w, E, J, nn, nb, nc, np, NA, BA, CA, PA, ad2, v, F, G, nl, nm, nw, fp, hS, h2, hC, hR, hP⟩ := hI
  obtain ⟨⟨w6, v0, l4⟩, ⟨w7, v2, n60⟩, ⟨w8, v7, m40⟩, ⟨w9, v13, w12⟩, ⟨w10, v19, c40⟩, w11, ebn, -⟩ := id hP
  obtain ⟨⟨hpb, hp80, hb52⟩, hfp, hpm, hLN, hln⟩ := hP.asks
  obtain ⟨a1, ea1⟩ : ∃ z, xs (nI (i + 1)).toNatClampNeg = z := ⟨_, rfl⟩
  obtain ⟨a2, ea2⟩ : ∃ z, xs (nI (i + 2)).toNatClampNeg = z := ⟨_, rfl⟩
  refine lv_aload_n hx hb dL_law_359 rfl (lv_at hl 2 rfl) ?_
  refine lv_aload_n hx hb dL_law_360 rfl (lv_at hl 1 rfl) ?_
  refine lv_iload_n hx hb dL_law_361 rfl (lv_at hl 0 rfl) ?_
  refine lv_iconst (v := 1) hx hb dL_law_362 (by decide) ?_
  refine lv_iadd hx hb dL_law_363 ?_
  refine top_eq (y := nI (i + 1)) (tn_add rfl rfl) ?_
  refine va_sld hx hb hX hbl hbA hS (vp_in_nI (by omega) (by omega)) dL_law_364 ?_
  refine top_eq (y := a1) ea1 ?_
  refine lv_aload_n hx hb dL_law_365 rfl (lv_at hl 1 rfl) ?_
  refine lv_iload_n hx hb dL_law_366 rfl (lv_at hl 0 rfl) ?_
  refine lv_iconst (v := 2) hx hb dL_law_367 (by decide) ?_
  refine lv_iadd hx hb dL_law_368 ?_
  refine top_eq (y := nI (i + 2)) (tn_add rfl rfl) ?_
  refine va_sld hx hb hX hbl hbA hS (vp_in_nI (by omega) (by omega)) dL_law_369 ?_
  refine top_eq (y := a2) ea2 ?_
  refine lw_I (As := [.int a1, .int a2]) (rest := []) C hS h2 st_L_37 (fun A => c_X4_slur l D cs A _ Z lab ad w E J nn nb nc np NA BA CA PA hC w7 n60 w10 c40 hpb nm nw w8 w9 ebn hb52 w11 hp80 hLN a1 a2) (CSx.z hC) rfl rfl ⟨rfl, rfl, Nat.le_of_ble_eq_true rfl, Nat.le_of_ble_eq_true rfl⟩ rfl hl.1 rfl (Nat.le_of_ble_eq_true rfl) dL_law_370 ⟨by omega, by omega⟩ (fun r_370 M_370 H locs hx1 h2 hS => ?_)
  obtain ⟨lab_2, w_2, E_2, J_2, nc_2, np_2, CA_2, PA_2, hC, ex⟩ := hx1
  refine lv_aload_n hx hb dL_law_373 rfl (lv_at hl 3 rfl) ?_
  refine lv_aload_n hx hb dL_law_374 rfl (lv_at hl 1 rfl) ?_
  refine lv_iload_n hx hb dL_law_375 rfl (lv_at hl 0 rfl) ?_
  refine lv_iconst (v := 1) hx hb dL_law_376 (by decide) ?_
  refine lv_iadd hx hb dL_law_377 ?_
  refine top_eq (y := nI (i + 1)) (tn_add rfl rfl) ?_
  refine va_sld hx hb hX hbl hbA hS (vp_in_nI (by omega) (by omega)) dL_law_378 ?_
  refine top_eq (y := a1) ea1 ?_
  refine lv_aload_n hx hb dL_law_379 rfl (lv_at hl 1 rfl) ?_
  refine lv_iload_n hx hb dL_law_380 rfl (lv_at hl 0 rfl) ?_
  refine lv_iconst (v := 2) hx hb dL_law_381 (by decide) ?_
  refine lv_iadd hx hb dL_law_382 ?_
  refine top_eq (y := nI (i + 2)) (tn_add rfl rfl) ?_
  refine va_sld hx hb hX hbl hbA hS (vp_in_nI (by omega) (by omega)) dL_law_383 ?_
  refine top_eq (y := a2) ea2 ?_
  refine lw_I (As := [.int a1, .int a2]) (rest := [.int r_370]) C hS h2.symm st_L_40 (fun A => c_X5_slur l D cs A _ X ad2 v F G hR nn nm nw nc v2 n60 v7 m40 v13 w12 v19 c40 hln a1 a2) hR.1 rfl rfl ⟨rfl, rfl, Nat.le_of_ble_eq_true rfl, Nat.le_of_ble_eq_true rfl⟩ rfl hl.1 rfl (Nat.le_of_ble_eq_true rfl) dL_law_384 ⟨by omega, by omega⟩ (fun r_384 M_384 H locs hy1 h2 hS => ?_)
  have h2 := h2.symm
  obtain ⟨v_2, F_2, G_2, hR, ey⟩ := hy1
  obtain ⟨er, fp_2, hP⟩ := cp_comes hP (Or.inl rfl) ex ey
  refine lv_icmp_eq (tgt := 730) hx hb dL_law_387 (by decide) (fun c_ => ?_) (fun c_ => ?_)
  · refine W.widen (k := cells + 9) (n := slots + 56) (by omega) (by omega) ?_
    exact kk _ _ ⟨_, _, _, _, _, _, _, _, _, _, _, _, _, _, _, _, _, _, _, _, _, _, _, hS, h2, hC, hR, hP⟩
  · exact absurd er c_

set_option maxHeartbeats 4000000 in
set_option maxRecDepth 100000 in
theorem law_again {p : Program} {l : Launch} {e : Env} {s : State} {m : MethodId} {below : List Frame} {meth : Method} {c : Code} {D : va_G} {cs : Nat → ClassId} {b L Z X i cells slots : Nat} {xs : Nat → Int32} {H : Heap} {locs : List Loc} {ls : Array Slot} {Q : State → Prop} (C : kx D cs p m c cL_law 4 s #[Value.ref b] RL) (hX : va_X b L xs s s.heap) (hbl : b < s.heap.size) (hL : L ≤ 3072) (hi : i + 6 ≤ L) (hcl : cells + 9 ≤ room_1.cells) (hsl : slots + 56 ≤ room_1.slots) (hl : lv_has ls 4 [(3, .int (nI i)), (0, .ref b), (1, .ref Z), (2, .ref X)]) (hI : LI D cs s Z X H locs) (kk : ∀ (H1 : Heap) (locs1 : List Loc), LI D cs s Z X H1 locs1 → W p l e room_1 s m #[Value.ref b] below meth c H1 locs1 (cells + 9) (slots + 56) Q (F0 m 730 ls [])) : W p l e room_1 s m #[Value.ref b] below meth c H locs cells slots Q (F0 m 392 ls []) := by
  have hx := C.1.1
  have hb := C.1.2.1
  have hbA : ¬ aN s b := Nat.not_le.mpr hbl
  obtain ⟨M, N, lab, ad, w, E, J, nn, nb, nc, np, NA, BA, CA, PA, ad2, v, F, G, nl, nm, nw, fp, hS, h2, hC, hR, hP⟩ := hI
  obtain ⟨⟨w6, v0, l4⟩, ⟨w7, v2, n60⟩, ⟨w8, v7, m40⟩, ⟨w9, v13, w12⟩, ⟨w10, v19, c40⟩, w11, ebn, -⟩ := id hP
  obtain ⟨⟨hpb, hp80, hb52⟩, hfp, hpm, hLN, hln⟩ := hP.asks
  refine lv_aload_n hx hb dL_law_392 rfl (lv_at hl 2 rfl) ?_
  refine lw_I (As := []) (rest := []) C hS h2 st_L_41 (fun A => c_X4_again l D cs A _ Z lab ad w E J nn nb nc np NA BA CA PA hC nm nw w8 w9 ebn hb52 w11 hp80) (CSx.z hC) rfl rfl ⟨rfl, rfl, Nat.le_of_ble_eq_true rfl, Nat.le_of_ble_eq_true rfl⟩ rfl hl.1 rfl (Nat.le_of_ble_eq_true rfl) dL_law_393 ⟨by omega, by omega⟩ (fun r_393 M_393 H locs hx1 h2 hS => ?_)
  obtain ⟨E_2, n_2, hC, ex, ex2⟩ := hx1
  refine lv_aload_n hx hb dL_law_396 rfl (lv_at hl 3 rfl) ?_
  refine lw_I (As := []) (rest := [.int r_393]) C hS h2.symm st_L_45 (fun A => c_X5_again l D cs A _ X ad2 v F G hR nm nw nc v7 m40 v13 w12 v19 c40 (pcN E J) hpm) hR.1 rfl rfl ⟨rfl, rfl, Nat.le_of_ble_eq_true rfl, Nat.le_of_ble_eq_true rfl⟩ rfl hl.1 rfl (Nat.le_of_ble_eq_true rfl) dL_law_397 ⟨by omega, by omega⟩ (fun r_397 M_397 H locs hy1 h2 hS => ?_)
  have h2 := h2.symm
  obtain ⟨F_2, G_2, hR, ey, ey2⟩ := hy1
  obtain ⟨er, hP⟩ := cp_again hP ex
  rw [← ey] at hP
  rw [er, ← ey2] at ex2
  have er := ex2
  refine lv_icmp_eq (tgt := 730) hx hb dL_law_400 (by decide) (fun c_ => ?_) (fun c_ => ?_)
  · refine W.widen (k := cells + 9) (n := slots + 56) (by omega) (by omega) ?_
    exact kk _ _ ⟨_, _, _, _, _, _, _, _, _, _, _, _, _, _, _, _, _, _, _, _, _, _, _, hS, h2, hC, hR, hP⟩
  · exact absurd er c_

set_option maxHeartbeats 4000000 in
set_option maxRecDepth 100000 in
theorem law_curve {p : Program} {l : Launch} {e : Env} {s : State} {m : MethodId} {below : List Frame} {meth : Method} {c : Code} {D : va_G} {cs : Nat → ClassId} {b L Z X i cells slots : Nat} {xs : Nat → Int32} {H : Heap} {locs : List Loc} {ls : Array Slot} {Q : State → Prop} (C : kx D cs p m c cL_law 4 s #[Value.ref b] RL) (hX : va_X b L xs s s.heap) (hbl : b < s.heap.size) (hL : L ≤ 3072) (hi : i + 6 ≤ L) (hcl : cells + 9 ≤ room_1.cells) (hsl : slots + 56 ≤ room_1.slots) (hl : lv_has ls 4 [(3, .int (nI i)), (0, .ref b), (1, .ref Z), (2, .ref X)]) (hI : LI D cs s Z X H locs) (kk : ∀ (H1 : Heap) (locs1 : List Loc), LI D cs s Z X H1 locs1 → W p l e room_1 s m #[Value.ref b] below meth c H1 locs1 (cells + 9) (slots + 56) Q (F0 m 730 ls [])) : W p l e room_1 s m #[Value.ref b] below meth c H locs cells slots Q (F0 m 405 ls []) := by
  have hx := C.1.1
  have hb := C.1.2.1
  have hbA : ¬ aN s b := Nat.not_le.mpr hbl
  obtain ⟨M, N, lab, ad, w, E, J, nn, nb, nc, np, NA, BA, CA, PA, ad2, v, F, G, nl, nm, nw, fp, hS, h2, hC, hR, hP⟩ := hI
  obtain ⟨⟨w6, v0, l4⟩, ⟨w7, v2, n60⟩, ⟨w8, v7, m40⟩, ⟨w9, v13, w12⟩, ⟨w10, v19, c40⟩, w11, ebn, -⟩ := id hP
  obtain ⟨⟨hpb, hp80, hb52⟩, hfp, hpm, hLN, hln⟩ := hP.asks
  obtain ⟨a1, ea1⟩ : ∃ z, xs (nI (i + 1)).toNatClampNeg = z := ⟨_, rfl⟩
  obtain ⟨a2, ea2⟩ : ∃ z, xs (nI (i + 2)).toNatClampNeg = z := ⟨_, rfl⟩
  refine lv_aload_n hx hb dL_law_405 rfl (lv_at hl 2 rfl) ?_
  refine lv_aload_n hx hb dL_law_406 rfl (lv_at hl 1 rfl) ?_
  refine lv_iload_n hx hb dL_law_407 rfl (lv_at hl 0 rfl) ?_
  refine lv_iconst (v := 1) hx hb dL_law_408 (by decide) ?_
  refine lv_iadd hx hb dL_law_409 ?_
  refine top_eq (y := nI (i + 1)) (tn_add rfl rfl) ?_
  refine va_sld hx hb hX hbl hbA hS (vp_in_nI (by omega) (by omega)) dL_law_410 ?_
  refine top_eq (y := a1) ea1 ?_
  refine lv_aload_n hx hb dL_law_411 rfl (lv_at hl 1 rfl) ?_
  refine lv_iload_n hx hb dL_law_412 rfl (lv_at hl 0 rfl) ?_
  refine lv_iconst (v := 2) hx hb dL_law_413 (by decide) ?_
  refine lv_iadd hx hb dL_law_414 ?_
  refine top_eq (y := nI (i + 2)) (tn_add rfl rfl) ?_
  refine va_sld hx hb hX hbl hbA hS (vp_in_nI (by omega) (by omega)) dL_law_415 ?_
  refine top_eq (y := a2) ea2 ?_
  refine ro_goI (ro_V (As := [.int a1, .int a2]) (rest := []) C h2.1.rd st_L_46 (c_X4_curve l D cs _ Z lab ad w E J nn nb nc np NA BA CA PA hC w10 c40 a1 a2) (CSx.z hC) rfl rfl ⟨rfl, rfl, Nat.le_of_ble_eq_true rfl, Nat.le_of_ble_eq_true rfl⟩ rfl hl.1 rfl (Nat.le_of_ble_eq_true rfl) dL_law_416 ⟨by omega, by omega⟩) (fun r_416 hx1 => ?_)
  refine lv_aload_n hx hb dL_law_419 rfl (lv_at hl 3 rfl) ?_
  refine lv_aload_n hx hb dL_law_420 rfl (lv_at hl 1 rfl) ?_
  refine lv_iload_n hx hb dL_law_421 rfl (lv_at hl 0 rfl) ?_
  refine lv_iconst (v := 1) hx hb dL_law_422 (by decide) ?_
  refine lv_iadd hx hb dL_law_423 ?_
  refine top_eq (y := nI (i + 1)) (tn_add rfl rfl) ?_
  refine va_sld hx hb hX hbl hbA hS (vp_in_nI (by omega) (by omega)) dL_law_424 ?_
  refine top_eq (y := a1) ea1 ?_
  refine lv_aload_n hx hb dL_law_425 rfl (lv_at hl 1 rfl) ?_
  refine lv_iload_n hx hb dL_law_426 rfl (lv_at hl 0 rfl) ?_
  refine lv_iconst (v := 2) hx hb dL_law_427 (by decide) ?_
  refine lv_iadd hx hb dL_law_428 ?_
  refine top_eq (y := nI (i + 2)) (tn_add rfl rfl) ?_
  refine va_sld hx hb hX hbl hbA hS (vp_in_nI (by omega) (by omega)) dL_law_429 ?_
  refine top_eq (y := a2) ea2 ?_
  refine ro_goI (ro_V (As := [.int a1, .int a2]) (rest := [.int r_416]) C h2.2.1.rd st_L_49 (c_X5_curve l D cs _ X ad2 v F G hR nc v19 c40 a1 a2) hR.1 rfl rfl ⟨rfl, rfl, Nat.le_of_ble_eq_true rfl, Nat.le_of_ble_eq_true rfl⟩ rfl hl.1 rfl (Nat.le_of_ble_eq_true rfl) dL_law_430 ⟨by omega, by omega⟩) (fun r_430 hy1 => ?_)
  have er := (hx1.trans (cp_curve hP a1 a2)).trans hy1.symm
  refine lv_icmp_eq (tgt := 730) hx hb dL_law_433 (by decide) (fun c_ => ?_) (fun c_ => ?_)
  · refine W.widen (k := cells + 9) (n := slots + 56) (by omega) (by omega) ?_
    exact kk _ _ ⟨_, _, _, _, _, _, _, _, _, _, _, _, _, _, _, _, _, _, _, _, _, _, _, hS, h2, hC, hR, hP⟩
  · exact absurd er c_

set_option maxHeartbeats 4000000 in
set_option maxRecDepth 100000 in
theorem law_part {p : Program} {l : Launch} {e : Env} {s : State} {m : MethodId} {below : List Frame} {meth : Method} {c : Code} {D : va_G} {cs : Nat → ClassId} {b L Z X i cells slots : Nat} {xs : Nat → Int32} {H : Heap} {locs : List Loc} {ls : Array Slot} {Q : State → Prop} (C : kx D cs p m c cL_law 4 s #[Value.ref b] RL) (hX : va_X b L xs s s.heap) (hbl : b < s.heap.size) (hL : L ≤ 3072) (hi : i + 6 ≤ L) (hcl : cells + 9 ≤ room_1.cells) (hsl : slots + 56 ≤ room_1.slots) (hl : lv_has ls 4 [(3, .int (nI i)), (0, .ref b), (1, .ref Z), (2, .ref X)]) (hI : LI D cs s Z X H locs) (kk : ∀ (H1 : Heap) (locs1 : List Loc), LI D cs s Z X H1 locs1 → W p l e room_1 s m #[Value.ref b] below meth c H1 locs1 (cells + 9) (slots + 56) Q (F0 m 730 ls [])) : W p l e room_1 s m #[Value.ref b] below meth c H locs cells slots Q (F0 m 438 ls []) := by
  have hx := C.1.1
  have hb := C.1.2.1
  have hbA : ¬ aN s b := Nat.not_le.mpr hbl
  obtain ⟨M, N, lab, ad, w, E, J, nn, nb, nc, np, NA, BA, CA, PA, ad2, v, F, G, nl, nm, nw, fp, hS, h2, hC, hR, hP⟩ := hI
  obtain ⟨⟨w6, v0, l4⟩, ⟨w7, v2, n60⟩, ⟨w8, v7, m40⟩, ⟨w9, v13, w12⟩, ⟨w10, v19, c40⟩, w11, ebn, -⟩ := id hP
  obtain ⟨⟨hpb, hp80, hb52⟩, hfp, hpm, hLN, hln⟩ := hP.asks
  obtain ⟨a1, ea1⟩ : ∃ z, xs (nI (i + 1)).toNatClampNeg = z := ⟨_, rfl⟩
  obtain ⟨a2, ea2⟩ : ∃ z, xs (nI (i + 2)).toNatClampNeg = z := ⟨_, rfl⟩
  obtain ⟨a3, ea3⟩ : ∃ z, xs (nI (i + 3)).toNatClampNeg = z := ⟨_, rfl⟩
  refine lv_aload_n hx hb dL_law_438 rfl (lv_at hl 2 rfl) ?_
  refine lv_aload_n hx hb dL_law_439 rfl (lv_at hl 1 rfl) ?_
  refine lv_iload_n hx hb dL_law_440 rfl (lv_at hl 0 rfl) ?_
  refine lv_iconst (v := 1) hx hb dL_law_441 (by decide) ?_
  refine lv_iadd hx hb dL_law_442 ?_
  refine top_eq (y := nI (i + 1)) (tn_add rfl rfl) ?_
  refine va_sld hx hb hX hbl hbA hS (vp_in_nI (by omega) (by omega)) dL_law_443 ?_
  refine top_eq (y := a1) ea1 ?_
  refine lv_aload_n hx hb dL_law_444 rfl (lv_at hl 1 rfl) ?_
  refine lv_iload_n hx hb dL_law_445 rfl (lv_at hl 0 rfl) ?_
  refine lv_iconst (v := 2) hx hb dL_law_446 (by decide) ?_
  refine lv_iadd hx hb dL_law_447 ?_
  refine top_eq (y := nI (i + 2)) (tn_add rfl rfl) ?_
  refine va_sld hx hb hX hbl hbA hS (vp_in_nI (by omega) (by omega)) dL_law_448 ?_
  refine top_eq (y := a2) ea2 ?_
  refine lv_aload_n hx hb dL_law_449 rfl (lv_at hl 1 rfl) ?_
  refine lv_iload_n hx hb dL_law_450 rfl (lv_at hl 0 rfl) ?_
  refine lv_iconst (v := 3) hx hb dL_law_451 (by decide) ?_
  refine lv_iadd hx hb dL_law_452 ?_
  refine top_eq (y := nI (i + 3)) (tn_add rfl rfl) ?_
  refine va_sld hx hb hX hbl hbA hS (vp_in_nI (by omega) (by omega)) dL_law_453 ?_
  refine top_eq (y := a3) ea3 ?_
  refine ro_goI (ro_V (As := [.int a1, .int a2, .int a3]) (rest := []) C h2.1.rd st_L_50 (c_X4_part l D cs _ Z lab ad w E J nn nb nc np NA BA CA PA hC w10 c40 fp hfp hp80 a1 a2 a3) (CSx.z hC) rfl rfl ⟨rfl, rfl, Nat.le_of_ble_eq_true rfl, Nat.le_of_ble_eq_true rfl⟩ rfl hl.1 rfl (Nat.le_of_ble_eq_true rfl) dL_law_454 ⟨by omega, by omega⟩) (fun r_454 hx1 => ?_)
  refine lv_aload_n hx hb dL_law_457 rfl (lv_at hl 3 rfl) ?_
  refine lv_aload_n hx hb dL_law_458 rfl (lv_at hl 1 rfl) ?_
  refine lv_iload_n hx hb dL_law_459 rfl (lv_at hl 0 rfl) ?_
  refine lv_iconst (v := 1) hx hb dL_law_460 (by decide) ?_
  refine lv_iadd hx hb dL_law_461 ?_
  refine top_eq (y := nI (i + 1)) (tn_add rfl rfl) ?_
  refine va_sld hx hb hX hbl hbA hS (vp_in_nI (by omega) (by omega)) dL_law_462 ?_
  refine top_eq (y := a1) ea1 ?_
  refine lv_aload_n hx hb dL_law_463 rfl (lv_at hl 1 rfl) ?_
  refine lv_iload_n hx hb dL_law_464 rfl (lv_at hl 0 rfl) ?_
  refine lv_iconst (v := 2) hx hb dL_law_465 (by decide) ?_
  refine lv_iadd hx hb dL_law_466 ?_
  refine top_eq (y := nI (i + 2)) (tn_add rfl rfl) ?_
  refine va_sld hx hb hX hbl hbA hS (vp_in_nI (by omega) (by omega)) dL_law_467 ?_
  refine top_eq (y := a2) ea2 ?_
  refine lv_aload_n hx hb dL_law_468 rfl (lv_at hl 1 rfl) ?_
  refine lv_iload_n hx hb dL_law_469 rfl (lv_at hl 0 rfl) ?_
  refine lv_iconst (v := 3) hx hb dL_law_470 (by decide) ?_
  refine lv_iadd hx hb dL_law_471 ?_
  refine top_eq (y := nI (i + 3)) (tn_add rfl rfl) ?_
  refine va_sld hx hb hX hbl hbA hS (vp_in_nI (by omega) (by omega)) dL_law_472 ?_
  refine top_eq (y := a3) ea3 ?_
  refine ro_goI (ro_V (As := [.int a1, .int a2, .int a3]) (rest := [.int r_454]) C h2.2.1.rd st_L_54 (c_X5_part l D cs _ X ad2 v F G hR nc v19 c40 (pcN E J) hpm a1 a2 a3) hR.1 rfl rfl ⟨rfl, rfl, Nat.le_of_ble_eq_true rfl, Nat.le_of_ble_eq_true rfl⟩ rfl hl.1 rfl (Nat.le_of_ble_eq_true rfl) dL_law_473 ⟨by omega, by omega⟩) (fun r_473 hy1 => ?_)
  have er := (hx1.trans (cp_part hP a1 a2 a3)).trans hy1.symm
  refine lv_icmp_eq (tgt := 730) hx hb dL_law_476 (by decide) (fun c_ => ?_) (fun c_ => ?_)
  · refine W.widen (k := cells + 9) (n := slots + 56) (by omega) (by omega) ?_
    exact kk _ _ ⟨_, _, _, _, _, _, _, _, _, _, _, _, _, _, _, _, _, _, _, _, _, _, _, hS, h2, hC, hR, hP⟩
  · exact absurd er c_

set_option maxHeartbeats 4000000 in
set_option maxRecDepth 100000 in
theorem law_point {p : Program} {l : Launch} {e : Env} {s : State} {m : MethodId} {below : List Frame} {meth : Method} {c : Code} {D : va_G} {cs : Nat → ClassId} {b L Z X i cells slots : Nat} {xs : Nat → Int32} {H : Heap} {locs : List Loc} {ls : Array Slot} {Q : State → Prop} (C : kx D cs p m c cL_law 4 s #[Value.ref b] RL) (hX : va_X b L xs s s.heap) (hbl : b < s.heap.size) (hL : L ≤ 3072) (hi : i + 6 ≤ L) (hcl : cells + 9 ≤ room_1.cells) (hsl : slots + 56 ≤ room_1.slots) (hl : lv_has ls 4 [(3, .int (nI i)), (0, .ref b), (1, .ref Z), (2, .ref X)]) (hI : LI D cs s Z X H locs) (kk : ∀ (H1 : Heap) (locs1 : List Loc), LI D cs s Z X H1 locs1 → W p l e room_1 s m #[Value.ref b] below meth c H1 locs1 (cells + 9) (slots + 56) Q (F0 m 730 ls [])) : W p l e room_1 s m #[Value.ref b] below meth c H locs cells slots Q (F0 m 481 ls []) := by
  have hx := C.1.1
  have hb := C.1.2.1
  have hbA : ¬ aN s b := Nat.not_le.mpr hbl
  obtain ⟨M, N, lab, ad, w, E, J, nn, nb, nc, np, NA, BA, CA, PA, ad2, v, F, G, nl, nm, nw, fp, hS, h2, hC, hR, hP⟩ := hI
  obtain ⟨⟨w6, v0, l4⟩, ⟨w7, v2, n60⟩, ⟨w8, v7, m40⟩, ⟨w9, v13, w12⟩, ⟨w10, v19, c40⟩, w11, ebn, -⟩ := id hP
  obtain ⟨⟨hpb, hp80, hb52⟩, hfp, hpm, hLN, hln⟩ := hP.asks
  obtain ⟨a1, ea1⟩ : ∃ z, xs (nI (i + 1)).toNatClampNeg = z := ⟨_, rfl⟩
  obtain ⟨a2, ea2⟩ : ∃ z, xs (nI (i + 2)).toNatClampNeg = z := ⟨_, rfl⟩
  obtain ⟨a3, ea3⟩ : ∃ z, xs (nI (i + 3)).toNatClampNeg = z := ⟨_, rfl⟩
  obtain ⟨a4, ea4⟩ : ∃ z, xs (nI (i + 4)).toNatClampNeg = z := ⟨_, rfl⟩
  refine lv_aload_n hx hb dL_law_481 rfl (lv_at hl 2 rfl) ?_
  refine lv_aload_n hx hb dL_law_482 rfl (lv_at hl 1 rfl) ?_
  refine lv_iload_n hx hb dL_law_483 rfl (lv_at hl 0 rfl) ?_
  refine lv_iconst (v := 1) hx hb dL_law_484 (by decide) ?_
  refine lv_iadd hx hb dL_law_485 ?_
  refine top_eq (y := nI (i + 1)) (tn_add rfl rfl) ?_
  refine va_sld hx hb hX hbl hbA hS (vp_in_nI (by omega) (by omega)) dL_law_486 ?_
  refine top_eq (y := a1) ea1 ?_
  refine lv_aload_n hx hb dL_law_487 rfl (lv_at hl 1 rfl) ?_
  refine lv_iload_n hx hb dL_law_488 rfl (lv_at hl 0 rfl) ?_
  refine lv_iconst (v := 2) hx hb dL_law_489 (by decide) ?_
  refine lv_iadd hx hb dL_law_490 ?_
  refine top_eq (y := nI (i + 2)) (tn_add rfl rfl) ?_
  refine va_sld hx hb hX hbl hbA hS (vp_in_nI (by omega) (by omega)) dL_law_491 ?_
  refine top_eq (y := a2) ea2 ?_
  refine lv_aload_n hx hb dL_law_492 rfl (lv_at hl 1 rfl) ?_
  refine lv_iload_n hx hb dL_law_493 rfl (lv_at hl 0 rfl) ?_
  refine lv_iconst (v := 3) hx hb dL_law_494 (by decide) ?_
  refine lv_iadd hx hb dL_law_495 ?_
  refine top_eq (y := nI (i + 3)) (tn_add rfl rfl) ?_
  refine va_sld hx hb hX hbl hbA hS (vp_in_nI (by omega) (by omega)) dL_law_496 ?_
  refine top_eq (y := a3) ea3 ?_
  refine lv_aload_n hx hb dL_law_497 rfl (lv_at hl 1 rfl) ?_
  refine lv_iload_n hx hb dL_law_498 rfl (lv_at hl 0 rfl) ?_
  refine lv_iconst (v := 4) hx hb dL_law_499 (by decide) ?_
  refine lv_iadd hx hb dL_law_500 ?_
  refine top_eq (y := nI (i + 4)) (tn_add rfl rfl) ?_
  refine va_sld hx hb hX hbl hbA hS (vp_in_nI (by omega) (by omega)) dL_law_501 ?_
  refine top_eq (y := a4) ea4 ?_
  refine ro_goI (ro_V (As := [.int a1, .int a2, .int a3, .int a4]) (rest := []) C h2.1.rd st_L_55 (c_X4_point l D cs _ Z lab ad w E J nn nb nc np NA BA CA PA hC w10 c40 fp hfp hp80 a1 a2 a3 a4) (CSx.z hC) rfl rfl ⟨rfl, rfl, Nat.le_of_ble_eq_true rfl, Nat.le_of_ble_eq_true rfl⟩ rfl hl.1 rfl (Nat.le_of_ble_eq_true rfl) dL_law_502 ⟨by omega, by omega⟩) (fun r_502 hx1 => ?_)
  refine lv_aload_n hx hb dL_law_505 rfl (lv_at hl 3 rfl) ?_
  refine lv_aload_n hx hb dL_law_506 rfl (lv_at hl 1 rfl) ?_
  refine lv_iload_n hx hb dL_law_507 rfl (lv_at hl 0 rfl) ?_
  refine lv_iconst (v := 1) hx hb dL_law_508 (by decide) ?_
  refine lv_iadd hx hb dL_law_509 ?_
  refine top_eq (y := nI (i + 1)) (tn_add rfl rfl) ?_
  refine va_sld hx hb hX hbl hbA hS (vp_in_nI (by omega) (by omega)) dL_law_510 ?_
  refine top_eq (y := a1) ea1 ?_
  refine lv_aload_n hx hb dL_law_511 rfl (lv_at hl 1 rfl) ?_
  refine lv_iload_n hx hb dL_law_512 rfl (lv_at hl 0 rfl) ?_
  refine lv_iconst (v := 2) hx hb dL_law_513 (by decide) ?_
  refine lv_iadd hx hb dL_law_514 ?_
  refine top_eq (y := nI (i + 2)) (tn_add rfl rfl) ?_
  refine va_sld hx hb hX hbl hbA hS (vp_in_nI (by omega) (by omega)) dL_law_515 ?_
  refine top_eq (y := a2) ea2 ?_
  refine lv_aload_n hx hb dL_law_516 rfl (lv_at hl 1 rfl) ?_
  refine lv_iload_n hx hb dL_law_517 rfl (lv_at hl 0 rfl) ?_
  refine lv_iconst (v := 3) hx hb dL_law_518 (by decide) ?_
  refine lv_iadd hx hb dL_law_519 ?_
  refine top_eq (y := nI (i + 3)) (tn_add rfl rfl) ?_
  refine va_sld hx hb hX hbl hbA hS (vp_in_nI (by omega) (by omega)) dL_law_520 ?_
  refine top_eq (y := a3) ea3 ?_
  refine lv_aload_n hx hb dL_law_521 rfl (lv_at hl 1 rfl) ?_
  refine lv_iload_n hx hb dL_law_522 rfl (lv_at hl 0 rfl) ?_
  refine lv_iconst (v := 4) hx hb dL_law_523 (by decide) ?_
  refine lv_iadd hx hb dL_law_524 ?_
  refine top_eq (y := nI (i + 4)) (tn_add rfl rfl) ?_
  refine va_sld hx hb hX hbl hbA hS (vp_in_nI (by omega) (by omega)) dL_law_525 ?_
  refine top_eq (y := a4) ea4 ?_
  refine ro_goI (ro_V (As := [.int a1, .int a2, .int a3, .int a4]) (rest := [.int r_502]) C h2.2.1.rd st_L_59 (c_X5_point l D cs _ X ad2 v F G hR nc v19 c40 (pcN E J) hpm a1 a2 a3 a4) hR.1 rfl rfl ⟨rfl, rfl, Nat.le_of_ble_eq_true rfl, Nat.le_of_ble_eq_true rfl⟩ rfl hl.1 rfl (Nat.le_of_ble_eq_true rfl) dL_law_526 ⟨by omega, by omega⟩) (fun r_526 hy1 => ?_)
  have er := (hx1.trans (cp_point hP a1 a2 a3 a4)).trans hy1.symm
  refine lv_icmp_eq (tgt := 730) hx hb dL_law_529 (by decide) (fun c_ => ?_) (fun c_ => ?_)
  · refine W.widen (k := cells + 9) (n := slots + 56) (by omega) (by omega) ?_
    exact kk _ _ ⟨_, _, _, _, _, _, _, _, _, _, _, _, _, _, _, _, _, _, _, _, _, _, _, hS, h2, hC, hR, hP⟩
  · exact absurd er c_

set_option maxHeartbeats 4000000 in
set_option maxRecDepth 100000 in
theorem law_candidate {p : Program} {l : Launch} {e : Env} {s : State} {m : MethodId} {below : List Frame} {meth : Method} {c : Code} {D : va_G} {cs : Nat → ClassId} {b L Z X i cells slots : Nat} {xs : Nat → Int32} {H : Heap} {locs : List Loc} {ls : Array Slot} {Q : State → Prop} (C : kx D cs p m c cL_law 4 s #[Value.ref b] RL) (hX : va_X b L xs s s.heap) (hbl : b < s.heap.size) (hL : L ≤ 3072) (hi : i + 6 ≤ L) (hcl : cells + 9 ≤ room_1.cells) (hsl : slots + 56 ≤ room_1.slots) (hl : lv_has ls 4 [(3, .int (nI i)), (0, .ref b), (1, .ref Z), (2, .ref X)]) (hI : LI D cs s Z X H locs) (kk : ∀ (H1 : Heap) (locs1 : List Loc), LI D cs s Z X H1 locs1 → W p l e room_1 s m #[Value.ref b] below meth c H1 locs1 (cells + 9) (slots + 56) Q (F0 m 730 ls [])) : W p l e room_1 s m #[Value.ref b] below meth c H locs cells slots Q (F0 m 534 ls []) := by
  have hx := C.1.1
  have hb := C.1.2.1
  have hbA : ¬ aN s b := Nat.not_le.mpr hbl
  obtain ⟨M, N, lab, ad, w, E, J, nn, nb, nc, np, NA, BA, CA, PA, ad2, v, F, G, nl, nm, nw, fp, hS, h2, hC, hR, hP⟩ := hI
  obtain ⟨⟨w6, v0, l4⟩, ⟨w7, v2, n60⟩, ⟨w8, v7, m40⟩, ⟨w9, v13, w12⟩, ⟨w10, v19, c40⟩, w11, ebn, -⟩ := id hP
  obtain ⟨⟨hpb, hp80, hb52⟩, hfp, hpm, hLN, hln⟩ := hP.asks
  obtain ⟨a1, ea1⟩ : ∃ z, xs (nI (i + 1)).toNatClampNeg = z := ⟨_, rfl⟩
  obtain ⟨a2, ea2⟩ : ∃ z, xs (nI (i + 2)).toNatClampNeg = z := ⟨_, rfl⟩
  obtain ⟨a3, ea3⟩ : ∃ z, xs (nI (i + 3)).toNatClampNeg = z := ⟨_, rfl⟩
  obtain ⟨a4, ea4⟩ : ∃ z, xs (nI (i + 4)).toNatClampNeg = z := ⟨_, rfl⟩
  refine lv_aload_n hx hb dL_law_534 rfl (lv_at hl 2 rfl) ?_
  refine lv_aload_n hx hb dL_law_535 rfl (lv_at hl 1 rfl) ?_
  refine lv_iload_n hx hb dL_law_536 rfl (lv_at hl 0 rfl) ?_
  refine lv_iconst (v := 1) hx hb dL_law_537 (by decide) ?_
  refine lv_iadd hx hb dL_law_538 ?_
  refine top_eq (y := nI (i + 1)) (tn_add rfl rfl) ?_
  refine va_sld hx hb hX hbl hbA hS (vp_in_nI (by omega) (by omega)) dL_law_539 ?_
  refine top_eq (y := a1) ea1 ?_
  refine lv_aload_n hx hb dL_law_540 rfl (lv_at hl 1 rfl) ?_
  refine lv_iload_n hx hb dL_law_541 rfl (lv_at hl 0 rfl) ?_
  refine lv_iconst (v := 2) hx hb dL_law_542 (by decide) ?_
  refine lv_iadd hx hb dL_law_543 ?_
  refine top_eq (y := nI (i + 2)) (tn_add rfl rfl) ?_
  refine va_sld hx hb hX hbl hbA hS (vp_in_nI (by omega) (by omega)) dL_law_544 ?_
  refine top_eq (y := a2) ea2 ?_
  refine lv_aload_n hx hb dL_law_545 rfl (lv_at hl 1 rfl) ?_
  refine lv_iload_n hx hb dL_law_546 rfl (lv_at hl 0 rfl) ?_
  refine lv_iconst (v := 3) hx hb dL_law_547 (by decide) ?_
  refine lv_iadd hx hb dL_law_548 ?_
  refine top_eq (y := nI (i + 3)) (tn_add rfl rfl) ?_
  refine va_sld hx hb hX hbl hbA hS (vp_in_nI (by omega) (by omega)) dL_law_549 ?_
  refine top_eq (y := a3) ea3 ?_
  refine lv_aload_n hx hb dL_law_550 rfl (lv_at hl 1 rfl) ?_
  refine lv_iload_n hx hb dL_law_551 rfl (lv_at hl 0 rfl) ?_
  refine lv_iconst (v := 4) hx hb dL_law_552 (by decide) ?_
  refine lv_iadd hx hb dL_law_553 ?_
  refine top_eq (y := nI (i + 4)) (tn_add rfl rfl) ?_
  refine va_sld hx hb hX hbl hbA hS (vp_in_nI (by omega) (by omega)) dL_law_554 ?_
  refine top_eq (y := a4) ea4 ?_
  refine lw_I (As := [.int a1, .int a2, .int a3, .int a4]) (rest := []) C hS h2 st_L_60 (fun A => c_X4_candidate l D cs A _ Z lab ad w E J nn nb nc np NA BA CA PA hC w10 c40 fp hfp hp80 nm nw w8 w9 ebn hb52 w11 a1 a2 a3 a4) (CSx.z hC) rfl rfl ⟨rfl, rfl, Nat.le_of_ble_eq_true rfl, Nat.le_of_ble_eq_true rfl⟩ rfl hl.1 rfl (Nat.le_of_ble_eq_true rfl) dL_law_555 ⟨by omega, by omega⟩ (fun r_555 M_555 H locs hx1 h2 hS => ?_)
  obtain ⟨E_2, hC, hq, ex⟩ := hx1
  refine lv_aload_n hx hb dL_law_558 rfl (lv_at hl 3 rfl) ?_
  refine lv_aload_n hx hb dL_law_559 rfl (lv_at hl 1 rfl) ?_
  refine lv_iload_n hx hb dL_law_560 rfl (lv_at hl 0 rfl) ?_
  refine lv_iconst (v := 1) hx hb dL_law_561 (by decide) ?_
  refine lv_iadd hx hb dL_law_562 ?_
  refine top_eq (y := nI (i + 1)) (tn_add rfl rfl) ?_
  refine va_sld hx hb hX hbl hbA hS (vp_in_nI (by omega) (by omega)) dL_law_563 ?_
  refine top_eq (y := a1) ea1 ?_
  refine lv_aload_n hx hb dL_law_564 rfl (lv_at hl 1 rfl) ?_
  refine lv_iload_n hx hb dL_law_565 rfl (lv_at hl 0 rfl) ?_
  refine lv_iconst (v := 2) hx hb dL_law_566 (by decide) ?_
  refine lv_iadd hx hb dL_law_567 ?_
  refine top_eq (y := nI (i + 2)) (tn_add rfl rfl) ?_
  refine va_sld hx hb hX hbl hbA hS (vp_in_nI (by omega) (by omega)) dL_law_568 ?_
  refine top_eq (y := a2) ea2 ?_
  refine lv_aload_n hx hb dL_law_569 rfl (lv_at hl 1 rfl) ?_
  refine lv_iload_n hx hb dL_law_570 rfl (lv_at hl 0 rfl) ?_
  refine lv_iconst (v := 3) hx hb dL_law_571 (by decide) ?_
  refine lv_iadd hx hb dL_law_572 ?_
  refine top_eq (y := nI (i + 3)) (tn_add rfl rfl) ?_
  refine va_sld hx hb hX hbl hbA hS (vp_in_nI (by omega) (by omega)) dL_law_573 ?_
  refine top_eq (y := a3) ea3 ?_
  refine lv_aload_n hx hb dL_law_574 rfl (lv_at hl 1 rfl) ?_
  refine lv_iload_n hx hb dL_law_575 rfl (lv_at hl 0 rfl) ?_
  refine lv_iconst (v := 4) hx hb dL_law_576 (by decide) ?_
  refine lv_iadd hx hb dL_law_577 ?_
  refine top_eq (y := nI (i + 4)) (tn_add rfl rfl) ?_
  refine va_sld hx hb hX hbl hbA hS (vp_in_nI (by omega) (by omega)) dL_law_578 ?_
  refine top_eq (y := a4) ea4 ?_
  refine lw_I (As := [.int a1, .int a2, .int a3, .int a4]) (rest := [.int r_555]) C hS h2.symm st_L_63 (fun A => c_X5_candidate l D cs A _ X ad2 v F G hR nm nw nc v7 m40 v13 w12 v19 c40 (pcN E J) hpm a1 a2 a3 a4) hR.1 rfl rfl ⟨rfl, rfl, Nat.le_of_ble_eq_true rfl, Nat.le_of_ble_eq_true rfl⟩ rfl hl.1 rfl (Nat.le_of_ble_eq_true rfl) dL_law_579 ⟨by omega, by omega⟩ (fun r_579 M_579 H locs hy1 h2 hS => ?_)
  have h2 := h2.symm
  obtain ⟨G_2, hR, ey⟩ := hy1
  have er := (ex.trans (cp_cand hP a1 a2 a3 a4)).trans ey.symm
  have hP := hP.trial hq
  refine lv_icmp_eq (tgt := 730) hx hb dL_law_582 (by decide) (fun c_ => ?_) (fun c_ => ?_)
  · refine W.widen (k := cells + 9) (n := slots + 56) (by omega) (by omega) ?_
    exact kk _ _ ⟨_, _, _, _, _, _, _, _, _, _, _, _, _, _, _, _, _, _, _, _, _, _, _, hS, h2, hC, hR, hP⟩
  · exact absurd er c_

set_option maxHeartbeats 4000000 in
set_option maxRecDepth 100000 in
theorem law_along {p : Program} {l : Launch} {e : Env} {s : State} {m : MethodId} {below : List Frame} {meth : Method} {c : Code} {D : va_G} {cs : Nat → ClassId} {b L Z X i cells slots : Nat} {xs : Nat → Int32} {H : Heap} {locs : List Loc} {ls : Array Slot} {Q : State → Prop} (C : kx D cs p m c cL_law 4 s #[Value.ref b] RL) (hX : va_X b L xs s s.heap) (hbl : b < s.heap.size) (hL : L ≤ 3072) (hi : i + 6 ≤ L) (hcl : cells + 9 ≤ room_1.cells) (hsl : slots + 56 ≤ room_1.slots) (hl : lv_has ls 4 [(3, .int (nI i)), (0, .ref b), (1, .ref Z), (2, .ref X)]) (hI : LI D cs s Z X H locs) (kk : ∀ (H1 : Heap) (locs1 : List Loc), LI D cs s Z X H1 locs1 → W p l e room_1 s m #[Value.ref b] below meth c H1 locs1 (cells + 9) (slots + 56) Q (F0 m 730 ls [])) : W p l e room_1 s m #[Value.ref b] below meth c H locs cells slots Q (F0 m 587 ls []) := by
  have hx := C.1.1
  have hb := C.1.2.1
  have hbA : ¬ aN s b := Nat.not_le.mpr hbl
  obtain ⟨M, N, lab, ad, w, E, J, nn, nb, nc, np, NA, BA, CA, PA, ad2, v, F, G, nl, nm, nw, fp, hS, h2, hC, hR, hP⟩ := hI
  obtain ⟨⟨w6, v0, l4⟩, ⟨w7, v2, n60⟩, ⟨w8, v7, m40⟩, ⟨w9, v13, w12⟩, ⟨w10, v19, c40⟩, w11, ebn, -⟩ := id hP
  obtain ⟨⟨hpb, hp80, hb52⟩, hfp, hpm, hLN, hln⟩ := hP.asks
  obtain ⟨a1, ea1⟩ : ∃ z, xs (nI (i + 1)).toNatClampNeg = z := ⟨_, rfl⟩
  obtain ⟨a2, ea2⟩ : ∃ z, xs (nI (i + 2)).toNatClampNeg = z := ⟨_, rfl⟩
  obtain ⟨a3, ea3⟩ : ∃ z, xs (nI (i + 3)).toNatClampNeg = z := ⟨_, rfl⟩
  obtain ⟨a4, ea4⟩ : ∃ z, xs (nI (i + 4)).toNatClampNeg = z := ⟨_, rfl⟩
  refine lv_aload_n hx hb dL_law_587 rfl (lv_at hl 2 rfl) ?_
  refine lv_aload_n hx hb dL_law_588 rfl (lv_at hl 1 rfl) ?_
  refine lv_iload_n hx hb dL_law_589 rfl (lv_at hl 0 rfl) ?_
  refine lv_iconst (v := 1) hx hb dL_law_590 (by decide) ?_
  refine lv_iadd hx hb dL_law_591 ?_
  refine top_eq (y := nI (i + 1)) (tn_add rfl rfl) ?_
  refine va_sld hx hb hX hbl hbA hS (vp_in_nI (by omega) (by omega)) dL_law_592 ?_
  refine top_eq (y := a1) ea1 ?_
  refine lv_aload_n hx hb dL_law_593 rfl (lv_at hl 1 rfl) ?_
  refine lv_iload_n hx hb dL_law_594 rfl (lv_at hl 0 rfl) ?_
  refine lv_iconst (v := 2) hx hb dL_law_595 (by decide) ?_
  refine lv_iadd hx hb dL_law_596 ?_
  refine top_eq (y := nI (i + 2)) (tn_add rfl rfl) ?_
  refine va_sld hx hb hX hbl hbA hS (vp_in_nI (by omega) (by omega)) dL_law_597 ?_
  refine top_eq (y := a2) ea2 ?_
  refine lv_aload_n hx hb dL_law_598 rfl (lv_at hl 1 rfl) ?_
  refine lv_iload_n hx hb dL_law_599 rfl (lv_at hl 0 rfl) ?_
  refine lv_iconst (v := 3) hx hb dL_law_600 (by decide) ?_
  refine lv_iadd hx hb dL_law_601 ?_
  refine top_eq (y := nI (i + 3)) (tn_add rfl rfl) ?_
  refine va_sld hx hb hX hbl hbA hS (vp_in_nI (by omega) (by omega)) dL_law_602 ?_
  refine top_eq (y := a3) ea3 ?_
  refine lv_aload_n hx hb dL_law_603 rfl (lv_at hl 1 rfl) ?_
  refine lv_iload_n hx hb dL_law_604 rfl (lv_at hl 0 rfl) ?_
  refine lv_iconst (v := 4) hx hb dL_law_605 (by decide) ?_
  refine lv_iadd hx hb dL_law_606 ?_
  refine top_eq (y := nI (i + 4)) (tn_add rfl rfl) ?_
  refine va_sld hx hb hX hbl hbA hS (vp_in_nI (by omega) (by omega)) dL_law_607 ?_
  refine top_eq (y := a4) ea4 ?_
  refine ro_goL (ro_V (As := [.int a1, .int a2, .int a3, .int a4]) (rest := []) C h2.1.rd st_L_64 (c_X4_along l D cs _ Z lab ad w E J nn nb nc np NA BA CA PA hC w10 c40 fp hfp hp80 a1 a2 a3 a4) (CSx.z hC) rfl rfl ⟨rfl, rfl, Nat.le_of_ble_eq_true rfl, Nat.le_of_ble_eq_true rfl⟩ rfl hl.1 rfl (Nat.le_of_ble_eq_true rfl) dL_law_608 ⟨by omega, by omega⟩) (fun r_608 hx1 => ?_)
  refine lv_aload_n hx hb dL_law_611 rfl (lv_at hl 3 rfl) ?_
  refine lv_aload_n hx hb dL_law_612 rfl (lv_at hl 1 rfl) ?_
  refine lv_iload_n hx hb dL_law_613 rfl (lv_at hl 0 rfl) ?_
  refine lv_iconst (v := 1) hx hb dL_law_614 (by decide) ?_
  refine lv_iadd hx hb dL_law_615 ?_
  refine top_eq (y := nI (i + 1)) (tn_add rfl rfl) ?_
  refine va_sld hx hb hX hbl hbA hS (vp_in_nI (by omega) (by omega)) dL_law_616 ?_
  refine top_eq (y := a1) ea1 ?_
  refine lv_aload_n hx hb dL_law_617 rfl (lv_at hl 1 rfl) ?_
  refine lv_iload_n hx hb dL_law_618 rfl (lv_at hl 0 rfl) ?_
  refine lv_iconst (v := 2) hx hb dL_law_619 (by decide) ?_
  refine lv_iadd hx hb dL_law_620 ?_
  refine top_eq (y := nI (i + 2)) (tn_add rfl rfl) ?_
  refine va_sld hx hb hX hbl hbA hS (vp_in_nI (by omega) (by omega)) dL_law_621 ?_
  refine top_eq (y := a2) ea2 ?_
  refine lv_aload_n hx hb dL_law_622 rfl (lv_at hl 1 rfl) ?_
  refine lv_iload_n hx hb dL_law_623 rfl (lv_at hl 0 rfl) ?_
  refine lv_iconst (v := 3) hx hb dL_law_624 (by decide) ?_
  refine lv_iadd hx hb dL_law_625 ?_
  refine top_eq (y := nI (i + 3)) (tn_add rfl rfl) ?_
  refine va_sld hx hb hX hbl hbA hS (vp_in_nI (by omega) (by omega)) dL_law_626 ?_
  refine top_eq (y := a3) ea3 ?_
  refine lv_aload_n hx hb dL_law_627 rfl (lv_at hl 1 rfl) ?_
  refine lv_iload_n hx hb dL_law_628 rfl (lv_at hl 0 rfl) ?_
  refine lv_iconst (v := 4) hx hb dL_law_629 (by decide) ?_
  refine lv_iadd hx hb dL_law_630 ?_
  refine top_eq (y := nI (i + 4)) (tn_add rfl rfl) ?_
  refine va_sld hx hb hX hbl hbA hS (vp_in_nI (by omega) (by omega)) dL_law_631 ?_
  refine top_eq (y := a4) ea4 ?_
  refine ro_goL (ro_V (As := [.int a1, .int a2, .int a3, .int a4]) (rest := [.long r_608]) C h2.2.1.rd st_L_68 (c_X5_along l D cs _ X ad2 v F G hR nc v19 c40 (pcN E J) hpm a1 a2 a3 a4) hR.1 rfl rfl ⟨rfl, rfl, Nat.le_of_ble_eq_true rfl, Nat.le_of_ble_eq_true rfl⟩ rfl hl.1 rfl (Nat.le_of_ble_eq_true rfl) dL_law_632 ⟨by omega, by omega⟩) (fun r_632 hy1 => ?_)
  have er := (hx1.trans (cp_along hP a1 a2 a3 a4)).trans hy1.symm
  refine W.lcmp hx hb dL_law_635 ?_
  refine lv_if_eq (tgt := 730) hx hb dL_law_636 (by decide) (fun c_ => ?_) (fun c_ => ?_)
  · refine W.widen (k := cells + 9) (n := slots + 56) (by omega) (by omega) ?_
    exact kk _ _ ⟨_, _, _, _, _, _, _, _, _, _, _, _, _, _, _, _, _, _, _, _, _, _, _, hS, h2, hC, hR, hP⟩
  · exact absurd ((lg_cmp_eq _ _).mpr er) c_

set_option maxHeartbeats 4000000 in
set_option maxRecDepth 100000 in
theorem law_within {p : Program} {l : Launch} {e : Env} {s : State} {m : MethodId} {below : List Frame} {meth : Method} {c : Code} {D : va_G} {cs : Nat → ClassId} {b L Z X i cells slots : Nat} {xs : Nat → Int32} {H : Heap} {locs : List Loc} {ls : Array Slot} {Q : State → Prop} (C : kx D cs p m c cL_law 4 s #[Value.ref b] RL) (hX : va_X b L xs s s.heap) (hbl : b < s.heap.size) (hL : L ≤ 3072) (hi : i + 6 ≤ L) (hcl : cells + 9 ≤ room_1.cells) (hsl : slots + 56 ≤ room_1.slots) (hl : lv_has ls 4 [(3, .int (nI i)), (0, .ref b), (1, .ref Z), (2, .ref X)]) (hI : LI D cs s Z X H locs) (kk : ∀ (H1 : Heap) (locs1 : List Loc), LI D cs s Z X H1 locs1 → W p l e room_1 s m #[Value.ref b] below meth c H1 locs1 (cells + 9) (slots + 56) Q (F0 m 730 ls [])) : W p l e room_1 s m #[Value.ref b] below meth c H locs cells slots Q (F0 m 641 ls []) := by
  have hx := C.1.1
  have hb := C.1.2.1
  have hbA : ¬ aN s b := Nat.not_le.mpr hbl
  obtain ⟨M, N, lab, ad, w, E, J, nn, nb, nc, np, NA, BA, CA, PA, ad2, v, F, G, nl, nm, nw, fp, hS, h2, hC, hR, hP⟩ := hI
  obtain ⟨⟨w6, v0, l4⟩, ⟨w7, v2, n60⟩, ⟨w8, v7, m40⟩, ⟨w9, v13, w12⟩, ⟨w10, v19, c40⟩, w11, ebn, -⟩ := id hP
  obtain ⟨⟨hpb, hp80, hb52⟩, hfp, hpm, hLN, hln⟩ := hP.asks
  obtain ⟨a1, ea1⟩ : ∃ z, xs (nI (i + 1)).toNatClampNeg = z := ⟨_, rfl⟩
  obtain ⟨a2, ea2⟩ : ∃ z, xs (nI (i + 2)).toNatClampNeg = z := ⟨_, rfl⟩
  obtain ⟨a3, ea3⟩ : ∃ z, xs (nI (i + 3)).toNatClampNeg = z := ⟨_, rfl⟩
  obtain ⟨a4, ea4⟩ : ∃ z, xs (nI (i + 4)).toNatClampNeg = z := ⟨_, rfl⟩
  refine lv_aload_n hx hb dL_law_641 rfl (lv_at hl 2 rfl) ?_
  refine lv_aload_n hx hb dL_law_642 rfl (lv_at hl 1 rfl) ?_
  refine lv_iload_n hx hb dL_law_643 rfl (lv_at hl 0 rfl) ?_
  refine lv_iconst (v := 1) hx hb dL_law_644 (by decide) ?_
  refine lv_iadd hx hb dL_law_645 ?_
  refine top_eq (y := nI (i + 1)) (tn_add rfl rfl) ?_
  refine va_sld hx hb hX hbl hbA hS (vp_in_nI (by omega) (by omega)) dL_law_646 ?_
  refine top_eq (y := a1) ea1 ?_
  refine lv_aload_n hx hb dL_law_647 rfl (lv_at hl 1 rfl) ?_
  refine lv_iload_n hx hb dL_law_648 rfl (lv_at hl 0 rfl) ?_
  refine lv_iconst (v := 2) hx hb dL_law_649 (by decide) ?_
  refine lv_iadd hx hb dL_law_650 ?_
  refine top_eq (y := nI (i + 2)) (tn_add rfl rfl) ?_
  refine va_sld hx hb hX hbl hbA hS (vp_in_nI (by omega) (by omega)) dL_law_651 ?_
  refine top_eq (y := a2) ea2 ?_
  refine lv_aload_n hx hb dL_law_652 rfl (lv_at hl 1 rfl) ?_
  refine lv_iload_n hx hb dL_law_653 rfl (lv_at hl 0 rfl) ?_
  refine lv_iconst (v := 3) hx hb dL_law_654 (by decide) ?_
  refine lv_iadd hx hb dL_law_655 ?_
  refine top_eq (y := nI (i + 3)) (tn_add rfl rfl) ?_
  refine va_sld hx hb hX hbl hbA hS (vp_in_nI (by omega) (by omega)) dL_law_656 ?_
  refine top_eq (y := a3) ea3 ?_
  refine lv_aload_n hx hb dL_law_657 rfl (lv_at hl 1 rfl) ?_
  refine lv_iload_n hx hb dL_law_658 rfl (lv_at hl 0 rfl) ?_
  refine lv_iconst (v := 4) hx hb dL_law_659 (by decide) ?_
  refine lv_iadd hx hb dL_law_660 ?_
  refine top_eq (y := nI (i + 4)) (tn_add rfl rfl) ?_
  refine va_sld hx hb hX hbl hbA hS (vp_in_nI (by omega) (by omega)) dL_law_661 ?_
  refine top_eq (y := a4) ea4 ?_
  refine ro_goI (ro_V (As := [.int a1, .int a2, .int a3, .int a4]) (rest := []) C h2.1.rd st_L_69 (c_X4_within l D cs _ Z lab ad w E J nn nb nc np NA BA CA PA hC w10 c40 fp hfp hp80 a1 a2 a3 a4) (CSx.z hC) rfl rfl ⟨rfl, rfl, Nat.le_of_ble_eq_true rfl, Nat.le_of_ble_eq_true rfl⟩ rfl hl.1 rfl (Nat.le_of_ble_eq_true rfl) dL_law_662 ⟨by omega, by omega⟩) (fun r_662 hx1 => ?_)
  refine lv_aload_n hx hb dL_law_665 rfl (lv_at hl 3 rfl) ?_
  refine lv_aload_n hx hb dL_law_666 rfl (lv_at hl 1 rfl) ?_
  refine lv_iload_n hx hb dL_law_667 rfl (lv_at hl 0 rfl) ?_
  refine lv_iconst (v := 1) hx hb dL_law_668 (by decide) ?_
  refine lv_iadd hx hb dL_law_669 ?_
  refine top_eq (y := nI (i + 1)) (tn_add rfl rfl) ?_
  refine va_sld hx hb hX hbl hbA hS (vp_in_nI (by omega) (by omega)) dL_law_670 ?_
  refine top_eq (y := a1) ea1 ?_
  refine lv_aload_n hx hb dL_law_671 rfl (lv_at hl 1 rfl) ?_
  refine lv_iload_n hx hb dL_law_672 rfl (lv_at hl 0 rfl) ?_
  refine lv_iconst (v := 2) hx hb dL_law_673 (by decide) ?_
  refine lv_iadd hx hb dL_law_674 ?_
  refine top_eq (y := nI (i + 2)) (tn_add rfl rfl) ?_
  refine va_sld hx hb hX hbl hbA hS (vp_in_nI (by omega) (by omega)) dL_law_675 ?_
  refine top_eq (y := a2) ea2 ?_
  refine lv_aload_n hx hb dL_law_676 rfl (lv_at hl 1 rfl) ?_
  refine lv_iload_n hx hb dL_law_677 rfl (lv_at hl 0 rfl) ?_
  refine lv_iconst (v := 3) hx hb dL_law_678 (by decide) ?_
  refine lv_iadd hx hb dL_law_679 ?_
  refine top_eq (y := nI (i + 3)) (tn_add rfl rfl) ?_
  refine va_sld hx hb hX hbl hbA hS (vp_in_nI (by omega) (by omega)) dL_law_680 ?_
  refine top_eq (y := a3) ea3 ?_
  refine lv_aload_n hx hb dL_law_681 rfl (lv_at hl 1 rfl) ?_
  refine lv_iload_n hx hb dL_law_682 rfl (lv_at hl 0 rfl) ?_
  refine lv_iconst (v := 4) hx hb dL_law_683 (by decide) ?_
  refine lv_iadd hx hb dL_law_684 ?_
  refine top_eq (y := nI (i + 4)) (tn_add rfl rfl) ?_
  refine va_sld hx hb hX hbl hbA hS (vp_in_nI (by omega) (by omega)) dL_law_685 ?_
  refine top_eq (y := a4) ea4 ?_
  refine ro_goI (ro_V (As := [.int a1, .int a2, .int a3, .int a4]) (rest := [.int r_662]) C h2.2.1.rd st_L_72 (c_X5_within l D cs _ X ad2 v F G hR nc v19 c40 (pcN E J) hpm a1 a2 a3 a4) hR.1 rfl rfl ⟨rfl, rfl, Nat.le_of_ble_eq_true rfl, Nat.le_of_ble_eq_true rfl⟩ rfl hl.1 rfl (Nat.le_of_ble_eq_true rfl) dL_law_686 ⟨by omega, by omega⟩) (fun r_686 hy1 => ?_)
  have er := (hx1.trans (cp_within hP a1 a2 a3 a4)).trans hy1.symm
  refine lv_icmp_eq (tgt := 730) hx hb dL_law_689 (by decide) (fun c_ => ?_) (fun c_ => ?_)
  · refine W.widen (k := cells + 9) (n := slots + 56) (by omega) (by omega) ?_
    exact kk _ _ ⟨_, _, _, _, _, _, _, _, _, _, _, _, _, _, _, _, _, _, _, _, _, _, _, hS, h2, hC, hR, hP⟩
  · exact absurd er c_

set_option maxHeartbeats 4000000 in
set_option maxRecDepth 100000 in
theorem law_count {p : Program} {l : Launch} {e : Env} {s : State} {m : MethodId} {below : List Frame} {meth : Method} {c : Code} {D : va_G} {cs : Nat → ClassId} {b L Z X i cells slots : Nat} {xs : Nat → Int32} {H : Heap} {locs : List Loc} {ls : Array Slot} {Q : State → Prop} (C : kx D cs p m c cL_law 4 s #[Value.ref b] RL) (hX : va_X b L xs s s.heap) (hbl : b < s.heap.size) (hL : L ≤ 3072) (hi : i + 6 ≤ L) (hcl : cells + 9 ≤ room_1.cells) (hsl : slots + 56 ≤ room_1.slots) (hl : lv_has ls 4 [(3, .int (nI i)), (0, .ref b), (1, .ref Z), (2, .ref X)]) (hI : LI D cs s Z X H locs) (kk : ∀ (H1 : Heap) (locs1 : List Loc), LI D cs s Z X H1 locs1 → W p l e room_1 s m #[Value.ref b] below meth c H1 locs1 (cells + 9) (slots + 56) Q (F0 m 730 ls [])) : W p l e room_1 s m #[Value.ref b] below meth c H locs cells slots Q (F0 m 694 ls []) := by
  have hx := C.1.1
  have hb := C.1.2.1
  have hbA : ¬ aN s b := Nat.not_le.mpr hbl
  obtain ⟨M, N, lab, ad, w, E, J, nn, nb, nc, np, NA, BA, CA, PA, ad2, v, F, G, nl, nm, nw, fp, hS, h2, hC, hR, hP⟩ := hI
  obtain ⟨⟨w6, v0, l4⟩, ⟨w7, v2, n60⟩, ⟨w8, v7, m40⟩, ⟨w9, v13, w12⟩, ⟨w10, v19, c40⟩, w11, ebn, -⟩ := id hP
  obtain ⟨⟨hpb, hp80, hb52⟩, hfp, hpm, hLN, hln⟩ := hP.asks
  obtain ⟨a1, ea1⟩ : ∃ z, xs (nI (i + 1)).toNatClampNeg = z := ⟨_, rfl⟩
  refine lv_aload_n hx hb dL_law_694 rfl (lv_at hl 2 rfl) ?_
  refine lv_aload_n hx hb dL_law_695 rfl (lv_at hl 1 rfl) ?_
  refine lv_iload_n hx hb dL_law_696 rfl (lv_at hl 0 rfl) ?_
  refine lv_iconst (v := 1) hx hb dL_law_697 (by decide) ?_
  refine lv_iadd hx hb dL_law_698 ?_
  refine top_eq (y := nI (i + 1)) (tn_add rfl rfl) ?_
  refine va_sld hx hb hX hbl hbA hS (vp_in_nI (by omega) (by omega)) dL_law_699 ?_
  refine top_eq (y := a1) ea1 ?_
  refine ro_goI (ro_V (As := [.int a1]) (rest := []) C h2.1.rd st_L_73 (c_X4_count l D cs _ Z lab ad w E J nn nb nc np NA BA CA PA hC w11 hp80 a1) (CSx.z hC) rfl rfl ⟨rfl, rfl, Nat.le_of_ble_eq_true rfl, Nat.le_of_ble_eq_true rfl⟩ rfl hl.1 rfl (Nat.le_of_ble_eq_true rfl) dL_law_700 ⟨by omega, by omega⟩) (fun r_700 hx1 => ?_)
  refine lv_aload_n hx hb dL_law_703 rfl (lv_at hl 3 rfl) ?_
  refine lv_aload_n hx hb dL_law_704 rfl (lv_at hl 1 rfl) ?_
  refine lv_iload_n hx hb dL_law_705 rfl (lv_at hl 0 rfl) ?_
  refine lv_iconst (v := 1) hx hb dL_law_706 (by decide) ?_
  refine lv_iadd hx hb dL_law_707 ?_
  refine top_eq (y := nI (i + 1)) (tn_add rfl rfl) ?_
  refine va_sld hx hb hX hbl hbA hS (vp_in_nI (by omega) (by omega)) dL_law_708 ?_
  refine top_eq (y := a1) ea1 ?_
  refine ro_goI (ro_V (As := [.int a1]) (rest := [.int r_700]) C h2.2.1.rd st_L_76 (c_X5_count l D cs _ X ad2 v F G hR nc v19 c40 a1) hR.1 rfl rfl ⟨rfl, rfl, Nat.le_of_ble_eq_true rfl, Nat.le_of_ble_eq_true rfl⟩ rfl hl.1 rfl (Nat.le_of_ble_eq_true rfl) dL_law_709 ⟨by omega, by omega⟩) (fun r_709 hy1 => ?_)
  have er := (hx1.trans (cp_count hP a1)).trans hy1.symm
  refine lv_icmp_eq (tgt := 730) hx hb dL_law_712 (by decide) (fun c_ => ?_) (fun c_ => ?_)
  · refine W.widen (k := cells + 9) (n := slots + 56) (by omega) (by omega) ?_
    exact kk _ _ ⟨_, _, _, _, _, _, _, _, _, _, _, _, _, _, _, _, _, _, _, _, _, _, _, hS, h2, hC, hR, hP⟩
  · exact absurd er c_

set_option maxHeartbeats 4000000 in
set_option maxRecDepth 100000 in
theorem law_clear {p : Program} {l : Launch} {e : Env} {s : State} {m : MethodId} {below : List Frame} {meth : Method} {c : Code} {D : va_G} {cs : Nat → ClassId} {b L Z X i cells slots : Nat} {xs : Nat → Int32} {H : Heap} {locs : List Loc} {ls : Array Slot} {Q : State → Prop} (C : kx D cs p m c cL_law 4 s #[Value.ref b] RL) (hX : va_X b L xs s s.heap) (hbl : b < s.heap.size) (hL : L ≤ 3072) (hi : i + 6 ≤ L) (hcl : cells + 9 ≤ room_1.cells) (hsl : slots + 56 ≤ room_1.slots) (hl : lv_has ls 4 [(3, .int (nI i)), (0, .ref b), (1, .ref Z), (2, .ref X)]) (hI : LI D cs s Z X H locs) (kk : ∀ (H1 : Heap) (locs1 : List Loc), LI D cs s Z X H1 locs1 → W p l e room_1 s m #[Value.ref b] below meth c H1 locs1 (cells + 9) (slots + 56) Q (F0 m 730 ls [])) : W p l e room_1 s m #[Value.ref b] below meth c H locs cells slots Q (F0 m 717 ls []) := by
  have hx := C.1.1
  have hb := C.1.2.1
  have hbA : ¬ aN s b := Nat.not_le.mpr hbl
  obtain ⟨M, N, lab, ad, w, E, J, nn, nb, nc, np, NA, BA, CA, PA, ad2, v, F, G, nl, nm, nw, fp, hS, h2, hC, hR, hP⟩ := hI
  obtain ⟨⟨w6, v0, l4⟩, ⟨w7, v2, n60⟩, ⟨w8, v7, m40⟩, ⟨w9, v13, w12⟩, ⟨w10, v19, c40⟩, w11, ebn, -⟩ := id hP
  obtain ⟨⟨hpb, hp80, hb52⟩, hfp, hpm, hLN, hln⟩ := hP.asks
  refine lv_aload_n hx hb dL_law_717 rfl (lv_at hl 2 rfl) ?_
  refine lw_I (As := []) (rest := []) C hS h2 st_L_77 (fun A => c_X4_clear l D cs A _ Z lab ad w E J nn nb nc np NA BA CA PA hC ) (CSx.z hC) rfl rfl ⟨rfl, rfl, Nat.le_of_ble_eq_true rfl, Nat.le_of_ble_eq_true rfl⟩ rfl hl.1 rfl (Nat.le_of_ble_eq_true rfl) dL_law_718 ⟨by omega, by omega⟩ (fun r_718 M_718 H locs hx1 h2 hS => ?_)
  obtain ⟨hC, ex⟩ := hx1
  refine lv_aload_n hx hb dL_law_721 rfl (lv_at hl 3 rfl) ?_
  refine lw_I (As := []) (rest := [.int r_718]) C hS h2.symm st_L_80 (fun A => c_X5_clear l D cs A _ X ad2 v F G hR ) hR.1 rfl rfl ⟨rfl, rfl, Nat.le_of_ble_eq_true rfl, Nat.le_of_ble_eq_true rfl⟩ rfl hl.1 rfl (Nat.le_of_ble_eq_true rfl) dL_law_722 ⟨by omega, by omega⟩ (fun r_722 M_722 H locs hy1 h2 hS => ?_)
  have h2 := h2.symm
  obtain ⟨hR, ey⟩ := hy1
  have er := (ex.trans (w10.trans v19.symm)).trans ey.symm
  have hP := cp_zero (xZero w) (rClear v) E J F (fun k a b => xZero_0 w k a b) (rClear_0 v)
  refine lv_icmp_eq (tgt := 730) hx hb dL_law_725 (by decide) (fun c_ => ?_) (fun c_ => ?_)
  · refine W.widen (k := cells + 9) (n := slots + 56) (by omega) (by omega) ?_
    exact kk _ _ ⟨_, _, _, _, _, _, _, _, _, _, _, _, _, _, _, _, _, _, _, _, _, _, _, hS, h2, hC, hR, hP⟩
  · exact absurd er c_


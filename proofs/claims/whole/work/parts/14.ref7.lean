theorem sF_ne (F : Nat → Nat → Int32) {k j : Nat} (i : Nat) (x : Int32) (h : j ≠ k) : sF F k i x j = F j := va_up_ne _ _ h
theorem sF_self (F : Nat → Nat → Int32) (k i : Nat) (x : Int32) : sF F k i x k i = x := by unfold sF; rw [va_up_self]; exact pk_us
def rL1 (F : Nat → Nat → Int32) (nn c0 a b : Nat) : Nat → Nat → Int32 := sF F 23 c0 (if F 22 c0 = 0 then rSlur F nn a b else rTie F nn a)
def rL2 (F : Nat → Nat → Int32) (c0 a b : Nat) : Nat → Nat → Int32 := sF F 24 c0 (if F 3 a = F 3 b then 1 else 2)
def rL3 (F : Nat → Nat → Int32) (c0 : Nat) : Int32 := if F 22 c0 = 0 then 0 else 3
def rLayO (F1 F2 : Nat → Nat → Int32) (c0 a b la : Nat) : Nat → Nat → Int32 := if F2 24 c0 = 1 then rLay F2 (2 * c0) (F2 3 a) (F1 4 a + rL3 F1 c0) (F1 5 a + rEnd F1 c0 a) (F1 4 b - rL3 F1 c0) (F1 5 b + rEnd F1 c0 b) else rLay (rLay F2 (2 * c0) (F2 3 a) (F1 4 a + rL3 F1 c0) (F1 5 a + rEnd F1 c0 a) (F2 1 la) (F1 5 a + rEnd F1 c0 a)) (2 * c0 + 1) (rLay F2 (2 * c0) (F2 3 a) (F1 4 a + rL3 F1 c0) (F1 5 a + rEnd F1 c0 a) (F2 1 la) (F1 5 a + rEnd F1 c0 a) 3 b) 0 (F1 5 b + rEnd F1 c0 b) (F1 4 b - rL3 F1 c0) (F1 5 b + rEnd F1 c0 b)
def rLayOut (F : Nat → Nat → Int32) (nn c0 a b la : Nat) : Nat → Nat → Int32 := rLayO (rL1 F nn c0 a b) (rL2 (rL1 F nn c0 a b) c0 a b) c0 a b la
theorem rLay_ne (F : Nat → Nat → Int32) (k : Nat) (l a b c d : Int32) {j : Nat} (h : j < 25 ∨ 29 < j) : rLay F k l a b c d j = F j := by
  unfold rLay
  rw [sF_ne _ _ _ (by omega), sF_ne _ _ _ (by omega), sF_ne _ _ _ (by omega), sF_ne _ _ _ (by omega), sF_ne _ _ _ (by omega)]
theorem rLayOut_24 (F : Nat → Nat → Int32) (nn c0 a b la : Nat) : rLayOut F nn c0 a b la 24 c0 = if F 3 a = F 3 b then 1 else 2 := by
  have h1 : rL2 (rL1 F nn c0 a b) c0 a b 24 c0 = if F 3 a = F 3 b then 1 else 2 := by
    unfold rL2; rw [sF_self]; unfold rL1; rw [sF_ne _ _ _ (by decide)]
  unfold rLayOut rLayO
  split
  · rw [rLay_ne _ _ _ _ _ _ _ (by decide), h1]
  · rw [rLay_ne _ _ _ _ _ _ _ (by decide), rLay_ne _ _ _ _ _ _ _ (by decide), h1]
set_option maxHeartbeats 4000000 in
set_option maxRecDepth 100000 in
theorem c_X5_layOut (l : Launch) (D : va_G) (cs : Nat → ClassId) (A : Nat → Prop) (M : wM) (X : Nat) (ad : Nat → Nat) (v : Nat → Int32) (F : Nat → Nat → Int32) (G : Nat → Nat → Int64) (hS : RS cs M X ad v F G) (nn : Nat) (hnn : v 2 = nI nn) (hn60 : nn ≤ 60) (c0 a b la : Nat) (hc0 : c0 < 40) (ha : F 20 c0 = nI a) (hb1 : F 21 c0 = nI b) (ha60 : a < 60) (hb60 : b < 60) (hla : F 3 a = nI la) (hl4 : la < 4) : Met l yX5_layOut (mw yX5_layOut cX5_layOut 8 none) { frames := 2, cells := 0, slots := 0, locals := 47 } (wrP D cs A M [.ref X, .int (nI c0)]) (va_Qv (fun M' => ∃ F', RS cs M' X ad v F' G ∧ F' = rLayOut F nn c0 a b la) (wrB D A) A) 0 0 A := by
  refine wr_met rfl (Nat.le_of_ble_eq_true rfl) ?_
  intro p e s m below meth c ls C hW hr hlk hini hl
  have C : kx D cs p m c cX5_layOut 8 s _ RX5 := C
  have hx := C.1.1
  have hb := C.1.2.1
  have hl : lv_has ls 8 [(0, .ref X), (1, .int (nI c0))] := hl
  refine lv_aload_n hx hb dX5_layOut_0 rfl (lv_at hl 0 rfl) ?_
  refine gf_X5_56 C hW.rd hS.1 rfl dX5_layOut_1 ?_
  refine lv_iload_n hx hb dX5_layOut_4 rfl (lv_at hl 1 rfl) ?_
  refine r_ialdN (k := c0) C hW.rd (RS.i hS 20 40 rfl rfl) (by omega) (by decide) rfl dX5_layOut_5 ?_
  refine top_eq (y := nI a) ha ?_
  refine lv_istore_n (lv' := [(2, .int (nI a)), (0, .ref X), (1, .int (nI c0))]) hx hb dX5_layOut_6 rfl hl (by decide) rfl (fun ls hl => ?_)
  refine lv_aload_n hx hb dX5_layOut_7 rfl (lv_at hl 1 rfl) ?_
  refine gf_X5_59 C hW.rd hS.1 rfl dX5_layOut_8 ?_
  refine lv_iload_n hx hb dX5_layOut_11 rfl (lv_at hl 2 rfl) ?_
  refine r_ialdN (k := c0) C hW.rd (RS.i hS 21 40 rfl rfl) (by omega) (by decide) rfl dX5_layOut_12 ?_
  refine top_eq (y := nI b) hb1 ?_
  refine lv_istore_n (lv' := [(3, .int (nI b)), (2, .int (nI a)), (0, .ref X), (1, .int (nI c0))]) hx hb dX5_layOut_13 rfl hl (by decide) rfl (fun ls hl => ?_)
  refine lv_aload_n hx hb dX5_layOut_14 rfl (lv_at hl 2 rfl) ?_
  refine gf_X5_65 C hW.rd hS.1 rfl dX5_layOut_15 ?_
  refine lv_iload_n hx hb dX5_layOut_18 rfl (lv_at hl 3 rfl) ?_
  refine W.cut (fun z => z = if F 22 c0 = 0 then rSlur F nn a b else rTie F nn a) (fun z => F0 m 42 ls (.int z :: [.int (nI c0), .ref (ad 23)])) (fun z_42 hz_42 => ?_) (fun J_42 => ?_)
  · refine w_iastN (k := c0) C hW (RS.i hS 23 40 rfl rfl) (by omega) (by decide) rfl dX5_layOut_42 (fun H locs hW => ?_)
    obtain ⟨M, F_1, eF_1, hS, hW⟩ : ∃ (M : wM) (w0 : Nat → Nat → Int32), w0 = sF F 23 c0 z_42 ∧ RS cs M X ad v w0 G ∧ wd D A M s.heap H locs := ⟨_, _, rfl, RS.setI hS 23 rfl c0 z_42, hW⟩
    refine lv_aload_n hx hb dX5_layOut_43 rfl (lv_at hl 2 rfl) ?_
    refine gf_X5_16 C hW.rd hS.1 rfl dX5_layOut_44 ?_
    refine lv_iload_n hx hb dX5_layOut_47 rfl (lv_at hl 1 rfl) ?_
    refine r_ialdN (k := a) C hW.rd (RS.i hS 4 60 rfl rfl) (by omega) (by decide) rfl dX5_layOut_48 ?_
    refine W.cut (fun z => z = rL3 F_1 c0) (fun z => F0 m 63 ls (.int z :: [.int (F_1 4 a)])) (fun z_63 hz_63 => ?_) (fun J_63 => ?_)
    · refine lv_iadd hx hb dX5_layOut_63 ?_
      refine lv_topi (fun x_64 ex_64 => ?_)
      refine lv_istore (lv' := [(4, .int x_64), (3, .int (nI b)), (2, .int (nI a)), (0, .ref X), (1, .int (nI c0))]) hx hb dX5_layOut_64 hl (by decide) rfl (fun ls hl => ?_)
      refine lv_aload_n hx hb dX5_layOut_66 rfl (lv_at hl 3 rfl) ?_
      refine gf_X5_16 C hW.rd hS.1 rfl dX5_layOut_67 ?_
      refine lv_iload_n hx hb dX5_layOut_70 rfl (lv_at hl 1 rfl) ?_
      refine r_ialdN (k := b) C hW.rd (RS.i hS 4 60 rfl rfl) (by omega) (by decide) rfl dX5_layOut_71 ?_
      refine W.cut (fun z => z = rL3 F_1 c0) (fun z => F0 m 86 ls (.int z :: [.int (F_1 4 b)])) (fun z_86 hz_86 => ?_) (fun J_86 => ?_)
      · refine lv_isub hx hb dX5_layOut_86 ?_
        refine lv_topi (fun x_87 ex_87 => ?_)
        refine lv_istore (lv' := [(5, .int x_87), (4, .int x_64), (3, .int (nI b)), (2, .int (nI a)), (0, .ref X), (1, .int (nI c0))]) hx hb dX5_layOut_87 hl (by decide) rfl (fun ls hl => ?_)
        refine lv_aload_n hx hb dX5_layOut_89 rfl (lv_at hl 4 rfl) ?_
        refine gf_X5_19 C hW.rd hS.1 rfl dX5_layOut_90 ?_
        refine lv_iload_n hx hb dX5_layOut_93 rfl (lv_at hl 3 rfl) ?_
        refine r_ialdN (k := a) C hW.rd (RS.i hS 5 60 rfl rfl) (by omega) (by decide) rfl dX5_layOut_94 ?_
        refine lv_aload_n hx hb dX5_layOut_95 rfl (lv_at hl 4 rfl) ?_
        refine lv_iload_n hx hb dX5_layOut_96 rfl (lv_at hl 5 rfl) ?_
        refine lv_iload_n hx hb dX5_layOut_97 rfl (lv_at hl 3 rfl) ?_
        refine ro_goI (ro_V (As := [.int (nI c0), .int (nI a)]) (rest := [.int (F_1 5 a)]) C hW.rd st_X5_159 (c_X5_endOf l D cs _ X ad v F_1 G hS c0 a (by omega) (by omega)) hS.1 rfl rfl ⟨rfl, rfl, Nat.le_of_ble_eq_true rfl, Nat.le_of_ble_eq_true rfl⟩ rfl hl.1 rfl (Nat.le_of_ble_eq_true rfl) dX5_layOut_98 ⟨Nat.le_of_ble_eq_true rfl, Nat.le_of_ble_eq_true rfl⟩) (fun r_98 h_98 => ?_)
        refine lv_iadd hx hb dX5_layOut_101 ?_
        refine lv_topi (fun x_102 ex_102 => ?_)
        refine lv_istore (lv' := [(6, .int x_102), (5, .int x_87), (4, .int x_64), (3, .int (nI b)), (2, .int (nI a)), (0, .ref X), (1, .int (nI c0))]) hx hb dX5_layOut_102 hl (by decide) rfl (fun ls hl => ?_)
        refine lv_aload_n hx hb dX5_layOut_104 rfl (lv_at hl 5 rfl) ?_
        refine gf_X5_19 C hW.rd hS.1 rfl dX5_layOut_105 ?_
        refine lv_iload_n hx hb dX5_layOut_108 rfl (lv_at hl 3 rfl) ?_
        refine r_ialdN (k := b) C hW.rd (RS.i hS 5 60 rfl rfl) (by omega) (by decide) rfl dX5_layOut_109 ?_
        refine lv_aload_n hx hb dX5_layOut_110 rfl (lv_at hl 5 rfl) ?_
        refine lv_iload_n hx hb dX5_layOut_111 rfl (lv_at hl 6 rfl) ?_
        refine lv_iload_n hx hb dX5_layOut_112 rfl (lv_at hl 3 rfl) ?_
        refine ro_goI (ro_V (As := [.int (nI c0), .int (nI b)]) (rest := [.int (F_1 5 b)]) C hW.rd st_X5_159 (c_X5_endOf l D cs _ X ad v F_1 G hS c0 b (by omega) (by omega)) hS.1 rfl rfl ⟨rfl, rfl, Nat.le_of_ble_eq_true rfl, Nat.le_of_ble_eq_true rfl⟩ rfl hl.1 rfl (Nat.le_of_ble_eq_true rfl) dX5_layOut_113 ⟨Nat.le_of_ble_eq_true rfl, Nat.le_of_ble_eq_true rfl⟩) (fun r_113 h_113 => ?_)
        refine lv_iadd hx hb dX5_layOut_116 ?_
        refine lv_topi (fun x_117 ex_117 => ?_)
        refine lv_istore (lv' := [(7, .int x_117), (6, .int x_102), (5, .int x_87), (4, .int x_64), (3, .int (nI b)), (2, .int (nI a)), (0, .ref X), (1, .int (nI c0))]) hx hb dX5_layOut_117 hl (by decide) rfl (fun ls hl => ?_)
        refine lv_aload_n hx hb dX5_layOut_119 rfl (lv_at hl 6 rfl) ?_
        refine gf_X5_68 C hW.rd hS.1 rfl dX5_layOut_120 ?_
        refine lv_iload_n hx hb dX5_layOut_123 rfl (lv_at hl 7 rfl) ?_
        refine W.cut (fun z => z = if F_1 3 a = F_1 3 b then 1 else 2) (fun z => F0 m 144 ls (.int z :: [.int (nI c0), .ref (ad 24)])) (fun z_144 hz_144 => ?_) (fun J_144 => ?_)
        · refine w_iastN (k := c0) C hW (RS.i hS 24 40 rfl rfl) (by omega) (by decide) rfl dX5_layOut_144 (fun H locs hW => ?_)
          obtain ⟨M, F_2, eF_2, hS, hW⟩ : ∃ (M : wM) (w0 : Nat → Nat → Int32), w0 = sF F_1 24 c0 z_144 ∧ RS cs M X ad v w0 G ∧ wd D A M s.heap H locs := ⟨_, _, rfl, RS.setI hS 24 rfl c0 z_144, hW⟩
          refine lv_aload_n hx hb dX5_layOut_145 rfl (lv_at hl 6 rfl) ?_
          refine gf_X5_68 C hW.rd hS.1 rfl dX5_layOut_146 ?_
          refine lv_iload_n hx hb dX5_layOut_149 rfl (lv_at hl 7 rfl) ?_
          refine r_ialdN (k := c0) C hW.rd (RS.i hS 24 40 rfl rfl) (by omega) (by decide) rfl dX5_layOut_150 ?_
          refine lv_iconst (v := 1) hx hb dX5_layOut_151 (by decide) ?_
          refine lv_icmp_ne (tgt := 179) hx hb dX5_layOut_152 (by decide) (fun c_152 => ?_) (fun c_152 => ?_)
          · refine lv_aload_n hx hb dX5_layOut_179 rfl (lv_at hl 6 rfl) ?_
            refine lv_iconst (v := 2) hx hb dX5_layOut_180 (by decide) ?_
            refine lv_iload_n hx hb dX5_layOut_181 rfl (lv_at hl 7 rfl) ?_
            refine lv_imul hx hb dX5_layOut_182 ?_
            refine top_eq (y := nI (2 * c0)) (tn_mul rfl rfl) ?_
            refine lv_aload_n hx hb dX5_layOut_183 rfl (lv_at hl 6 rfl) ?_
            refine gf_X5_13 C hW.rd hS.1 rfl dX5_layOut_184 ?_
            refine lv_iload_n hx hb dX5_layOut_187 rfl (lv_at hl 5 rfl) ?_
            refine r_ialdN (k := a) C hW.rd (RS.i hS 3 60 rfl rfl) (by omega) (by decide) rfl dX5_layOut_188 ?_
            refine lv_iload hx hb dX5_layOut_189 (lv_at hl 3 rfl) ?_
            refine lv_iload hx hb dX5_layOut_191 (lv_at hl 1 rfl) ?_
            refine lv_aload_n hx hb dX5_layOut_193 rfl (lv_at hl 6 rfl) ?_
            refine gf_X5_7 C hW.rd hS.1 rfl dX5_layOut_194 ?_
            refine lv_aload_n hx hb dX5_layOut_197 rfl (lv_at hl 6 rfl) ?_
            refine gf_X5_13 C hW.rd hS.1 rfl dX5_layOut_198 ?_
            refine lv_iload_n hx hb dX5_layOut_201 rfl (lv_at hl 5 rfl) ?_
            refine r_ialdN (k := a) C hW.rd (RS.i hS 3 60 rfl rfl) (by omega) (by decide) rfl dX5_layOut_202 ?_
            refine top_eq (y := nI la) (by rw [eF_2, eF_1, sF_ne _ _ _ (by decide), sF_ne _ _ _ (by decide)]; exact hla) ?_
            refine r_ialdN (k := la) C hW.rd (RS.i hS 1 4 rfl rfl) (by omega) (by decide) rfl dX5_layOut_203 ?_
            refine lv_iload hx hb dX5_layOut_204 (lv_at hl 1 rfl) ?_
            refine wr_goV hW (wr_V (As := [.int (nI (2 * c0)), .int (F_2 3 a), .int x_64, .int x_102, .int (F_2 1 la), .int x_102]) (rest := []) C hW st_X5_162 (c_X5_lay l D cs A _ X ad v F_2 G hS (2 * c0) (by omega) (F_2 3 a) x_64 x_102 (F_2 1 la) x_102) hS.1 rfl rfl ⟨rfl, rfl, Nat.le_of_ble_eq_true rfl, Nat.le_of_ble_eq_true rfl⟩ rfl hl.1 rfl (Nat.le_of_ble_eq_true rfl) dX5_layOut_206 ⟨Nat.le_of_ble_eq_true rfl, Nat.le_of_ble_eq_true rfl⟩) (fun M_206 H locs h_206 hW => ?_)
            obtain ⟨F_3, hS, eF_3⟩ := h_206
            refine lv_aload_n hx hb dX5_layOut_209 rfl (lv_at hl 6 rfl) ?_
            refine lv_iconst (v := 2) hx hb dX5_layOut_210 (by decide) ?_
            refine lv_iload_n hx hb dX5_layOut_211 rfl (lv_at hl 7 rfl) ?_
            refine lv_imul hx hb dX5_layOut_212 ?_
            refine top_eq (y := nI (2 * c0)) (tn_mul rfl rfl) ?_
            refine lv_iconst (v := 1) hx hb dX5_layOut_213 (by decide) ?_
            refine lv_iadd hx hb dX5_layOut_214 ?_
            refine top_eq (y := nI ((2 * c0) + 1)) (tn_add rfl rfl) ?_
            refine lv_aload_n hx hb dX5_layOut_215 rfl (lv_at hl 6 rfl) ?_
            refine gf_X5_13 C hW.rd hS.1 rfl dX5_layOut_216 ?_
            refine lv_iload_n hx hb dX5_layOut_219 rfl (lv_at hl 4 rfl) ?_
            refine r_ialdN (k := b) C hW.rd (RS.i hS 3 60 rfl rfl) (by omega) (by decide) rfl dX5_layOut_220 ?_
            refine lv_iconst (v := 0) hx hb dX5_layOut_221 (by decide) ?_
            refine lv_iload hx hb dX5_layOut_222 (lv_at hl 0 rfl) ?_
            refine lv_iload hx hb dX5_layOut_224 (lv_at hl 2 rfl) ?_
            refine lv_iload hx hb dX5_layOut_226 (lv_at hl 0 rfl) ?_
            refine wr_goV hW (wr_V (As := [.int (nI ((2 * c0) + 1)), .int (F_3 3 b), .int 0, .int x_117, .int x_87, .int x_117]) (rest := []) C hW st_X5_162 (c_X5_lay l D cs A _ X ad v F_3 G hS ((2 * c0) + 1) (by omega) (F_3 3 b) 0 x_117 x_87 x_117) hS.1 rfl rfl ⟨rfl, rfl, Nat.le_of_ble_eq_true rfl, Nat.le_of_ble_eq_true rfl⟩ rfl hl.1 rfl (Nat.le_of_ble_eq_true rfl) dX5_layOut_228 ⟨Nat.le_of_ble_eq_true rfl, Nat.le_of_ble_eq_true rfl⟩) (fun M_228 H locs h_228 hW => ?_)
            obtain ⟨F_4, hS, eF_4⟩ := h_228
            exact wr_vret C hW hr hlk (⟨_, hS, by subst h_98 h_113 hz_42 hz_63 ex_64 hz_86 ex_87 ex_102 ex_117 hz_144 eF_1 eF_2 eF_3 eF_4; exact (if_neg c_152).symm⟩) dX5_layOut_231
          · refine lv_aload_n hx hb dX5_layOut_155 rfl (lv_at hl 6 rfl) ?_
            refine lv_iconst (v := 2) hx hb dX5_layOut_156 (by decide) ?_
            refine lv_iload_n hx hb dX5_layOut_157 rfl (lv_at hl 7 rfl) ?_
            refine lv_imul hx hb dX5_layOut_158 ?_
            refine top_eq (y := nI (2 * c0)) (tn_mul rfl rfl) ?_
            refine lv_aload_n hx hb dX5_layOut_159 rfl (lv_at hl 6 rfl) ?_
            refine gf_X5_13 C hW.rd hS.1 rfl dX5_layOut_160 ?_
            refine lv_iload_n hx hb dX5_layOut_163 rfl (lv_at hl 5 rfl) ?_
            refine r_ialdN (k := a) C hW.rd (RS.i hS 3 60 rfl rfl) (by omega) (by decide) rfl dX5_layOut_164 ?_
            refine lv_iload hx hb dX5_layOut_165 (lv_at hl 3 rfl) ?_
            refine lv_iload hx hb dX5_layOut_167 (lv_at hl 1 rfl) ?_
            refine lv_iload hx hb dX5_layOut_169 (lv_at hl 2 rfl) ?_
            refine lv_iload hx hb dX5_layOut_171 (lv_at hl 0 rfl) ?_
            refine wr_goV hW (wr_V (As := [.int (nI (2 * c0)), .int (F_2 3 a), .int x_64, .int x_102, .int x_87, .int x_117]) (rest := []) C hW st_X5_162 (c_X5_lay l D cs A _ X ad v F_2 G hS (2 * c0) (by omega) (F_2 3 a) x_64 x_102 x_87 x_117) hS.1 rfl rfl ⟨rfl, rfl, Nat.le_of_ble_eq_true rfl, Nat.le_of_ble_eq_true rfl⟩ rfl hl.1 rfl (Nat.le_of_ble_eq_true rfl) dX5_layOut_173 ⟨Nat.le_of_ble_eq_true rfl, Nat.le_of_ble_eq_true rfl⟩) (fun M_173 H locs h_173 hW => ?_)
            obtain ⟨F_5, hS, eF_5⟩ := h_173
            refine lv_goto (tgt := 231) hx hb dX5_layOut_176 (by decide) ?_
            exact wr_vret C hW hr hlk (⟨_, hS, by subst h_98 h_113 hz_42 hz_63 ex_64 hz_86 ex_87 ex_102 ex_117 hz_144 eF_1 eF_2 eF_5; exact (if_pos c_152).symm⟩) dX5_layOut_231
        · refine lv_aload_n hx hb dX5_layOut_124 rfl (lv_at hl 6 rfl) ?_
          refine gf_X5_13 C hW.rd hS.1 rfl dX5_layOut_125 ?_
          refine lv_iload_n hx hb dX5_layOut_128 rfl (lv_at hl 5 rfl) ?_
          refine r_ialdN (k := a) C hW.rd (RS.i hS 3 60 rfl rfl) (by omega) (by decide) rfl dX5_layOut_129 ?_
          refine lv_aload_n hx hb dX5_layOut_130 rfl (lv_at hl 6 rfl) ?_
          refine gf_X5_13 C hW.rd hS.1 rfl dX5_layOut_131 ?_
          refine lv_iload_n hx hb dX5_layOut_134 rfl (lv_at hl 4 rfl) ?_
          refine r_ialdN (k := b) C hW.rd (RS.i hS 3 60 rfl rfl) (by omega) (by decide) rfl dX5_layOut_135 ?_
          refine lv_icmp_ne (tgt := 143) hx hb dX5_layOut_136 (by decide) (fun c_136 => ?_) (fun c_136 => ?_)
          · refine lv_iconst (v := 2) hx hb dX5_layOut_143 (by decide) ?_
            exact J_144 _ (by simp [c_136])
          · refine lv_iconst (v := 1) hx hb dX5_layOut_139 (by decide) ?_
            refine lv_goto (tgt := 144) hx hb dX5_layOut_140 (by decide) ?_
            exact J_144 _ (by simp [c_136])
      · refine lv_aload_n hx hb dX5_layOut_72 rfl (lv_at hl 3 rfl) ?_
        refine gf_X5_62 C hW.rd hS.1 rfl dX5_layOut_73 ?_
        refine lv_iload_n hx hb dX5_layOut_76 rfl (lv_at hl 4 rfl) ?_
        refine r_zaldN (k := c0) C hW.rd (RS.z hS 22 40 rfl rfl) (by omega) (by decide) rfl dX5_layOut_77 ?_
        refine lv_if_eq (tgt := 85) hx hb dX5_layOut_78 (by decide) (fun c_78 => ?_) (fun c_78 => ?_)
        · refine lv_iconst (v := 0) hx hb dX5_layOut_85 (by decide) ?_
          exact J_86 _ (by simp [rL3, c_78])
        · refine lv_iconst (v := 3) hx hb dX5_layOut_81 (by decide) ?_
          refine lv_goto (tgt := 86) hx hb dX5_layOut_82 (by decide) ?_
          exact J_86 _ (by simp [rL3, c_78])
    · refine lv_aload_n hx hb dX5_layOut_49 rfl (lv_at hl 2 rfl) ?_
      refine gf_X5_62 C hW.rd hS.1 rfl dX5_layOut_50 ?_
      refine lv_iload_n hx hb dX5_layOut_53 rfl (lv_at hl 3 rfl) ?_
      refine r_zaldN (k := c0) C hW.rd (RS.z hS 22 40 rfl rfl) (by omega) (by decide) rfl dX5_layOut_54 ?_
      refine lv_if_eq (tgt := 62) hx hb dX5_layOut_55 (by decide) (fun c_55 => ?_) (fun c_55 => ?_)
      · refine lv_iconst (v := 0) hx hb dX5_layOut_62 (by decide) ?_
        exact J_63 _ (by simp [rL3, c_55])
      · refine lv_iconst (v := 3) hx hb dX5_layOut_58 (by decide) ?_
        refine lv_goto (tgt := 63) hx hb dX5_layOut_59 (by decide) ?_
        exact J_63 _ (by simp [rL3, c_55])
  · refine lv_aload_n hx hb dX5_layOut_19 rfl (lv_at hl 2 rfl) ?_
    refine gf_X5_62 C hW.rd hS.1 rfl dX5_layOut_20 ?_
    refine lv_iload_n hx hb dX5_layOut_23 rfl (lv_at hl 3 rfl) ?_
    refine r_zaldN (k := c0) C hW.rd (RS.z hS 22 40 rfl rfl) (by omega) (by decide) rfl dX5_layOut_24 ?_
    refine lv_if_eq (tgt := 36) hx hb dX5_layOut_25 (by decide) (fun c_25 => ?_) (fun c_25 => ?_)
    · refine lv_aload_n hx hb dX5_layOut_36 rfl (lv_at hl 2 rfl) ?_
      refine lv_iload_n hx hb dX5_layOut_37 rfl (lv_at hl 1 rfl) ?_
      refine lv_iload_n hx hb dX5_layOut_38 rfl (lv_at hl 0 rfl) ?_
      refine ro_goI (ro_V (As := [.int (nI a), .int (nI b)]) (rest := [.int (nI c0), .ref (ad 23)]) C hW.rd st_X5_155 (c_X5_sideOfSlur l D cs _ X ad v F G hS nn hnn (by omega) a b (by omega) (by omega)) hS.1 rfl rfl ⟨rfl, rfl, Nat.le_of_ble_eq_true rfl, Nat.le_of_ble_eq_true rfl⟩ rfl hl.1 rfl (Nat.le_of_ble_eq_true rfl) dX5_layOut_39 ⟨Nat.le_of_ble_eq_true rfl, Nat.le_of_ble_eq_true rfl⟩) (fun r_39 h_39 => ?_)
      exact J_42 _ (by rw [if_pos c_25]; exact h_39)
    · refine lv_aload_n hx hb dX5_layOut_28 rfl (lv_at hl 2 rfl) ?_
      refine lv_iload_n hx hb dX5_layOut_29 rfl (lv_at hl 1 rfl) ?_
      refine ro_goI (ro_V (As := [.int (nI a)]) (rest := [.int (nI c0), .ref (ad 23)]) C hW.rd st_X5_151 (c_X5_sideOfTie l D cs _ X ad v F G hS nn hnn (by omega) a (by omega)) hS.1 rfl rfl ⟨rfl, rfl, Nat.le_of_ble_eq_true rfl, Nat.le_of_ble_eq_true rfl⟩ rfl hl.1 rfl (Nat.le_of_ble_eq_true rfl) dX5_layOut_30 ⟨Nat.le_of_ble_eq_true rfl, Nat.le_of_ble_eq_true rfl⟩) (fun r_30 h_30 => ?_)
      refine lv_goto (tgt := 42) hx hb dX5_layOut_33 (by decide) ?_
      exact J_42 _ (by rw [if_neg c_25]; exact h_30)

def chLoop (F : Nat → Nat → Int32) (nm nw nc c0 : Nat) : Nat → Nat → Nat → Int32
  | 0 => F
  | p + 1 => rChoose (chLoop F nm nw nc c0 p) nm nw nc (2 * c0 + p)
theorem rChoose_ne (F : Nat → Nat → Int32) (nm nw nc k : Nat) {j : Nat} (h1 : j ≠ 30) (h2 : j ≠ 31) : rChoose F nm nw nc k j = F j := by
  unfold rChoose
  rw [sF_ne _ _ _ h1, sF_ne _ _ _ h2]
theorem chLoop_ne (F : Nat → Nat → Int32) (nm nw nc c0 p : Nat) {j : Nat} (h1 : j ≠ 30) (h2 : j ≠ 31) : chLoop F nm nw nc c0 p j = F j := by
  induction p with
  | zero => rfl
  | succ p ih => rw [chLoop, rChoose_ne _ _ _ _ _ h1 h2, ih]
def pmN (F : Nat → Nat → Int32) (a b : Nat) : Nat := if F 3 a = F 3 b then 1 else 2
theorem pmN_eq (F : Nat → Nat → Int32) (a b : Nat) : (if F 3 a = F 3 b then (1 : Int32) else 2) = nI (pmN F a b) := by unfold pmN; split <;> rfl
theorem pmN_le (F : Nat → Nat → Int32) (a b : Nat) : 1 ≤ pmN F a b ∧ pmN F a b ≤ 2 := by unfold pmN; split <;> omega
def rNew (F : Nat → Nat → Int32) (nn nm nw nc a b la : Nat) (t : Int32) : Nat → Nat → Int32 := chLoop (rLayOut (sF (sF (sF F 20 nc (nI a)) 21 nc (nI b)) 22 nc t) nn nc a b la) nm nw (nc + 1) nc (pmN F a b)
def rComes (v : Nat → Int32) (F : Nat → Nat → Int32) (nn nm nw nc : Nat) (x y t : Int32) : Int32 × (Nat → Int32) × (Nat → Nat → Int32) := if inB x 0 (v 2 - 1) = true ∧ inB y 0 (v 2 - 1) = true then (if rMay F x.toNatClampNeg y.toNatClampNeg (F 3 x.toNatClampNeg).toNatClampNeg = true ∧ (t = 0 ∨ F 5 x.toNatClampNeg = F 5 y.toNatClampNeg) then (if nc = 40 then (-9004, v, F) else (nI nc, va_up v 19 (nI (nc + 1)), rNew F nn nm nw nc x.toNatClampNeg y.toNatClampNeg (F 3 x.toNatClampNeg).toNatClampNeg t)) else (-9003, v, F)) else (-9001, v, F)
set_option maxHeartbeats 4000000 in
set_option maxRecDepth 100000 in
theorem c_X5_comes (l : Launch) (D : va_G) (cs : Nat → ClassId) (A : Nat → Prop) (M : wM) (X : Nat) (ad : Nat → Nat) (v : Nat → Int32) (F : Nat → Nat → Int32) (G : Nat → Nat → Int64) (hS : RS cs M X ad v F G) (nn nm nw nc : Nat) (hnn : v 2 = nI nn) (hn60 : nn ≤ 60) (hnm : v 7 = nI nm) (hm40 : nm ≤ 40) (hnw : v 13 = nI nw) (hw12 : nw ≤ 12) (hnc : v 19 = nI nc) (hc40 : nc ≤ 40) (hln : ∀ a, a < nn → ∃ la, la < 4 ∧ F 3 a = nI la) (p1 p2 t : Int32) (ht : t = 0 ∨ t = 1) : Met l yX5_comes (mw yX5_comes cX5_comes 6 (some .int)) { frames := 6, cells := 0, slots := 0, locals := 164 } (wrP D cs A M [.ref X, .int p1, .int p2, .int t]) (va_Qi (fun r M' => ∃ v' F' G', RS cs M' X ad v' F' G' ∧ (r, v', F') = rComes v F nn nm nw nc p1 p2 t) (wrB D A) A) 0 0 A := by
  refine wr_met rfl (Nat.le_of_ble_eq_true rfl) ?_
  intro p e s m below meth c ls C hW hr hlk hini hl
  have C : kx D cs p m c cX5_comes 6 s _ RX5 := C
  have hx := C.1.1
  have hb := C.1.2.1
  have hl : lv_has ls 6 [(0, .ref X), (1, .int p1), (2, .int p2), (3, .int t)] := hl
  refine lv_aload_n hx hb dX5_comes_0 rfl (lv_at hl 0 rfl) ?_
  refine lv_iload_n hx hb dX5_comes_1 rfl (lv_at hl 1 rfl) ?_
  refine ro_goI (ro_V (As := [.int p1]) (rest := []) C hW.rd st_X5_130 (c_X5_isNote l D cs _ X ad v F G hS p1) hS.1 rfl rfl ⟨rfl, rfl, Nat.le_of_ble_eq_true rfl, Nat.le_of_ble_eq_true rfl⟩ rfl hl.1 rfl (Nat.le_of_ble_eq_true rfl) dX5_comes_2 ⟨Nat.le_of_ble_eq_true rfl, Nat.le_of_ble_eq_true rfl⟩) (fun r_2 h_2 => ?_)
  refine lv_if_eq (tgt := 16) hx hb dX5_comes_5 (by decide) (fun c_5 => ?_) (fun c_5 => ?_)
  · have c_5 : ¬ (inB p1 0 (v 2 - 1) = true) := bz0 h_2 c_5
    refine lv_sipush (v := (-9001)) hx hb dX5_comes_16 (by decide) ?_
    exact wr_iret C hW hr hlk (⟨_, _, _, hS, by simp [rComes, c_5]⟩) dX5_comes_19
  · have c_5 : inB p1 0 (v 2 - 1) = true := bz1 h_2 c_5
    obtain ⟨a, hja, rfl⟩ := inP_nat c_5 hnn (by omega)
    have hcla := nI_clamp (n := a) (by omega)
    refine lv_aload_n hx hb dX5_comes_8 rfl (lv_at hl 0 rfl) ?_
    refine lv_iload_n hx hb dX5_comes_9 rfl (lv_at hl 2 rfl) ?_
    refine ro_goI (ro_V (As := [.int p2]) (rest := []) C hW.rd st_X5_130 (c_X5_isNote l D cs _ X ad v F G hS p2) hS.1 rfl rfl ⟨rfl, rfl, Nat.le_of_ble_eq_true rfl, Nat.le_of_ble_eq_true rfl⟩ rfl hl.1 rfl (Nat.le_of_ble_eq_true rfl) dX5_comes_10 ⟨Nat.le_of_ble_eq_true rfl, Nat.le_of_ble_eq_true rfl⟩) (fun r_10 h_10 => ?_)
    refine lv_if_ne (tgt := 20) hx hb dX5_comes_13 (by decide) (fun c_13 => ?_) (fun c_13 => ?_)
    · have c_13 : inB p2 0 (v 2 - 1) = true := bz1 h_10 c_13
      obtain ⟨b, hjb, rfl⟩ := inP_nat c_13 hnn (by omega)
      have hclb := nI_clamp (n := b) (by omega)
      obtain ⟨la, hl4, hla⟩ := hln a hja
      have hclla := nI_clamp (n := la) (by omega)
      refine lv_aload_n hx hb dX5_comes_20 rfl (lv_at hl 0 rfl) ?_
      refine lv_iload_n hx hb dX5_comes_21 rfl (lv_at hl 1 rfl) ?_
      refine lv_iload_n hx hb dX5_comes_22 rfl (lv_at hl 2 rfl) ?_
      refine ro_goI (ro_V (As := [.int (nI a), .int (nI b)]) (rest := []) C hW.rd st_X5_133 (c_X5_mayBe l D cs _ X ad v F G hS a b (by omega) (by omega) la hla (by omega)) hS.1 rfl rfl ⟨rfl, rfl, Nat.le_of_ble_eq_true rfl, Nat.le_of_ble_eq_true rfl⟩ rfl hl.1 rfl (Nat.le_of_ble_eq_true rfl) dX5_comes_23 ⟨Nat.le_of_ble_eq_true rfl, Nat.le_of_ble_eq_true rfl⟩) (fun r_23 h_23 => ?_)
      refine lv_if_eq (tgt := 48) hx hb dX5_comes_26 (by decide) (fun c_26 => ?_) (fun c_26 => ?_)
      · have c_26 : ¬ (rMay F a b la = true) := bz0 h_23 c_26
        refine lv_sipush (v := (-9003)) hx hb dX5_comes_48 (by decide) ?_
        exact wr_iret C hW hr hlk (⟨_, _, _, hS, by simp [rComes, c_5, c_13, c_26, hcla, hclb, hla, hclla]⟩) dX5_comes_51
      · have c_26 : rMay F a b la = true := bz1 h_23 c_26
        refine W.cutP (t = 0 ∨ F 5 a = F 5 b) (F0 m 52 ls []) (fun hz_52 => ?_) (fun J_52 => ?_)
        · refine lv_aload_n hx hb dX5_comes_52 rfl (lv_at hl 0 rfl) ?_
          refine gf_X5_136 C hW.rd hS.1 rfl dX5_comes_53 ?_
          refine top_eq (y := nI nc) hnc ?_
          refine lv_bipush (v := 40) hx hb dX5_comes_56 (by decide) ?_
          refine lv_icmp_ne (tgt := 65) hx hb dX5_comes_58 (by decide) (fun c_58 => ?_) (fun c_58 => ?_)
          · have c_58 := ceq_f (a := nc) (b := 40) c_58 (by omega) (by omega)
            refine lv_aload_n hx hb dX5_comes_65 rfl (lv_at hl 0 rfl) ?_
            refine gf_X5_136 C hW.rd hS.1 rfl dX5_comes_66 ?_
            refine top_eq (y := nI nc) hnc ?_
            refine lv_istore (lv' := [(4, .int (nI nc)), (0, .ref X), (1, .int (nI a)), (2, .int (nI b)), (3, .int t)]) hx hb dX5_comes_69 hl (by decide) rfl (fun ls hl => ?_)
            refine lv_aload_n hx hb dX5_comes_71 rfl (lv_at hl 1 rfl) ?_
            refine gf_X5_56 C hW.rd hS.1 rfl dX5_comes_72 ?_
            refine lv_iload hx hb dX5_comes_75 (lv_at hl 0 rfl) ?_
            refine lv_iload_n hx hb dX5_comes_77 rfl (lv_at hl 2 rfl) ?_
            refine w_iastN (k := nc) C hW (RS.i hS 20 40 rfl rfl) (by omega) (by decide) rfl dX5_comes_78 (fun H locs hW => ?_)
            obtain ⟨M, F_1, eF_1, hS, hW⟩ : ∃ (M : wM) (w0 : Nat → Nat → Int32), w0 = sF F 20 nc (nI a) ∧ RS cs M X ad v w0 G ∧ wd D A M s.heap H locs := ⟨_, _, rfl, RS.setI hS 20 rfl nc (nI a), hW⟩
            refine lv_aload_n hx hb dX5_comes_79 rfl (lv_at hl 1 rfl) ?_
            refine gf_X5_59 C hW.rd hS.1 rfl dX5_comes_80 ?_
            refine lv_iload hx hb dX5_comes_83 (lv_at hl 0 rfl) ?_
            refine lv_iload_n hx hb dX5_comes_85 rfl (lv_at hl 3 rfl) ?_
            refine w_iastN (k := nc) C hW (RS.i hS 21 40 rfl rfl) (by omega) (by decide) rfl dX5_comes_86 (fun H locs hW => ?_)
            obtain ⟨M, F_2, eF_2, hS, hW⟩ : ∃ (M : wM) (w0 : Nat → Nat → Int32), w0 = sF F_1 21 nc (nI b) ∧ RS cs M X ad v w0 G ∧ wd D A M s.heap H locs := ⟨_, _, rfl, RS.setI hS 21 rfl nc (nI b), hW⟩
            refine lv_aload_n hx hb dX5_comes_87 rfl (lv_at hl 1 rfl) ?_
            refine gf_X5_62 C hW.rd hS.1 rfl dX5_comes_88 ?_
            refine lv_iload hx hb dX5_comes_91 (lv_at hl 0 rfl) ?_
            refine lv_iload_n hx hb dX5_comes_93 rfl (lv_at hl 4 rfl) ?_
            refine w_zastN (k := nc) C hW (RS.z hS 22 40 rfl rfl) (by omega) (by decide) ht rfl dX5_comes_94 (fun H locs hW => ?_)
            obtain ⟨M, F_3, eF_3, hS, hW⟩ : ∃ (M : wM) (w0 : Nat → Nat → Int32), w0 = sF F_2 22 nc t ∧ RS cs M X ad v w0 G ∧ wd D A M s.heap H locs := ⟨_, _, rfl, RS.setZ hS 22 rfl nc t, hW⟩
            refine lv_aload_n hx hb dX5_comes_95 rfl (lv_at hl 1 rfl) ?_
            refine lv_dup hx hb dX5_comes_96 rfl ?_
            refine gf_X5_136 C hW.rd hS.1 rfl dX5_comes_97 ?_
            refine top_eq (y := nI nc) hnc ?_
            refine lv_iconst (v := 1) hx hb dX5_comes_100 (by decide) ?_
            refine lv_iadd hx hb dX5_comes_101 ?_
            refine top_eq (y := nI (nc + 1)) (tn_add rfl rfl) ?_
            refine pf_X5_136 (fs2 := rFl ad (va_up v 19 (nI (nc + 1)))) C hW hS.1 (Nat.le_of_ble_eq_true rfl) rfl dX5_comes_102 (fun H locs hW => ?_)
            obtain ⟨M, v_4, ev_4, hS, hW⟩ : ∃ (M : wM) (w0 : Nat → Int32), w0 = va_up v 19 (nI (nc + 1)) ∧ RS cs M X ad w0 F_3 G ∧ wd D A M s.heap H locs := ⟨_, _, rfl, RS.setV hS 19 rfl (nI (nc + 1)), hW⟩
            refine lv_aload_n hx hb dX5_comes_105 rfl (lv_at hl 1 rfl) ?_
            refine lv_iload hx hb dX5_comes_106 (lv_at hl 0 rfl) ?_
            refine wr_goV hW (wr_V (As := [.int (nI nc)]) (rest := []) C hW st_X5_139 (c_X5_layOut l D cs A _ X ad v_4 F_3 G hS nn (by rw [ev_4, va_up_ne _ _ (by decide)]; exact hnn) (by omega) nc a b la (by omega) (by rw [eF_3, eF_2, eF_1, sF_ne _ _ _ (by decide), sF_ne _ _ _ (by decide), sF_self]) (by rw [eF_3, eF_2, sF_ne _ _ _ (by decide), sF_self]) (by omega) (by omega) (by rw [eF_3, eF_2, eF_1, sF_ne _ _ _ (by decide), sF_ne _ _ _ (by decide), sF_ne _ _ _ (by decide)]; exact hla) hl4) hS.1 rfl rfl ⟨rfl, rfl, Nat.le_of_ble_eq_true rfl, Nat.le_of_ble_eq_true rfl⟩ rfl hl.1 rfl (Nat.le_of_ble_eq_true rfl) dX5_comes_108 ⟨Nat.le_of_ble_eq_true rfl, Nat.le_of_ble_eq_true rfl⟩) (fun M_108 H locs h_108 hW => ?_)
            obtain ⟨F_5, hS, eF_5⟩ := h_108
            have hpm : F_5 24 nc = nI (pmN F a b) := by rw [eF_5, rLayOut_24, eF_3, eF_2, eF_1, sF_ne _ _ _ (by decide), sF_ne _ _ _ (by decide), sF_ne _ _ _ (by decide)]; exact pmN_eq F a b
            have hpl := pmN_le F a b
            have hnm : v_4 7 = nI nm := by rw [ev_4, va_up_ne _ _ (by decide)]; exact hnm
            have hnw : v_4 13 = nI nw := by rw [ev_4, va_up_ne _ _ (by decide)]; exact hnw
            have hnc1 : v_4 19 = nI (nc + 1) := by rw [ev_4, va_up_self]
            refine lv_iconst (v := 0) hx hb dX5_comes_111 (by decide) ?_
            refine lv_istore (lv' := [(5, .int 0), (4, .int (nI nc)), (0, .ref X), (1, .int (nI a)), (2, .int (nI b)), (3, .int t)]) hx hb dX5_comes_112 hl (by decide) rfl (fun ls hl => ?_)
            refine W.loopW (σ := Nat × (Nat → Nat → Int32) × (Nat → Nat → Int64) × Heap × List Loc × wM × Array Slot) (fun ⟨pq, F1, G1, H, locs, M, ls⟩ => F0 m 114 ls []) (fun ⟨pq, F1, G1, H, locs, M, ls⟩ => H) (fun ⟨pq, F1, G1, H, locs, M, ls⟩ => locs) (fun ⟨pq, F1, G1, H, locs, M, ls⟩ => (pq ≤ pmN F a b) ∧ (F1 = chLoop F_5 nm nw (nc + 1) nc pq) ∧ (RS cs M X ad v_4 F1 G1) ∧ wd D A M s.heap H locs ∧ lv_has ls 6 [(5, .int (nI pq)), (4, .int (nI nc)), (0, .ref X), (1, .int (nI a)), (2, .int (nI b)), (3, .int t)]) (fun ⟨pq, F1, G1, H, locs, M, ls⟩ => pmN F a b - pq) ?_ (0, F_5, G, _, _, _, _) ⟨by omega, rfl, hS, hW, lv_sub hl [0, 1, 2, 3, 4, 5] rfl⟩ rfl rfl rfl
            intro ⟨pq, F1, G1, H, locs, M, ls⟩ ⟨hpq, eF1, hS, hW, hl⟩ ih_114
            show W _ _ _ _ _ _ _ _ _ _ H locs _ _ _ (F0 m 114 ls [])
            have hl : lv_has ls 6 [(5, .int (nI pq)), (4, .int (nI nc)), (0, .ref X), (1, .int (nI a)), (2, .int (nI b)), (3, .int t)] := hl
            refine lv_iload hx hb dX5_comes_114 (lv_at hl 0 rfl) ?_
            refine lv_aload_n hx hb dX5_comes_116 rfl (lv_at hl 2 rfl) ?_
            refine gf_X5_68 C hW.rd hS.1 rfl dX5_comes_117 ?_
            refine lv_iload hx hb dX5_comes_120 (lv_at hl 1 rfl) ?_
            refine r_ialdN (k := nc) C hW.rd (RS.i hS 24 40 rfl rfl) (by omega) (by decide) rfl dX5_comes_122 ?_
            refine top_eq (y := nI (pmN F a b)) (by rw [eF1, chLoop_ne _ _ _ _ _ _ (by decide) (by decide)]; exact hpm) ?_
            refine lv_icmp_ge (tgt := 140) hx hb dX5_comes_123 (by decide) (fun c_123 => ?_) (fun c_123 => ?_)
            · have c_123 := cle_t (a := (pmN F a b)) (b := pq) c_123 (by omega) (by omega)
              refine lv_iload hx hb dX5_comes_140 (lv_at hl 1 rfl) ?_
              exact wr_iret C hW hr hlk (⟨_, _, _, hS, by subst ev_4 eF_5 eF_3 eF_2 eF_1; rw [rComes]; simp only [hcla, hclb, hla, hclla]; rw [if_pos ⟨c_5, c_13⟩, if_pos ⟨c_26, hz_52⟩, if_neg c_58, eF1, show pq = pmN F a b by omega]; rfl⟩) dX5_comes_142
            · have c_123 := cle_f (a := (pmN F a b)) (b := pq) c_123 (by omega) (by omega)
              refine lv_aload_n hx hb dX5_comes_126 rfl (lv_at hl 2 rfl) ?_
              refine lv_iload hx hb dX5_comes_127 (lv_at hl 1 rfl) ?_
              refine lv_iload hx hb dX5_comes_129 (lv_at hl 0 rfl) ?_
              refine wr_goV hW (wr_V (As := [.int (nI nc), .int (nI pq)]) (rest := []) C hW st_X5_143 (c_X5_choose l D cs A _ X ad v_4 F1 G1 hS nm nw (nc + 1) hnm (by omega) hnw (by omega) hnc1 (by omega) nc pq (by omega) (by omega)) hS.1 rfl rfl ⟨rfl, rfl, Nat.le_of_ble_eq_true rfl, Nat.le_of_ble_eq_true rfl⟩ rfl hl.1 rfl (Nat.le_of_ble_eq_true rfl) dX5_comes_131 ⟨Nat.le_of_ble_eq_true rfl, Nat.le_of_ble_eq_true rfl⟩) (fun M_131 H locs h_131 hW => ?_)
              obtain ⟨F_6, G_6, hS, eF_6⟩ := h_131
              refine lv_iinc (v := nI (pq + 1)) (lv' := [(5, .int (nI (pq + 1))), (4, .int (nI nc)), (0, .ref X), (1, .int (nI a)), (2, .int (nI b)), (3, .int t)]) hx hb dX5_comes_134 hl (k := 0) rfl (by exact tn_add rfl rfl) (by decide) rfl (fun ls hl => ?_)
              refine lv_goto (tgt := 114) hx hb dX5_comes_137 (by decide) ?_
              exact ih_114 ((pq + 1), F_6, G_6, _, _, _, _) ⟨by omega, by subst eF_6; rw [chLoop, ← eF1], hS, hW, lv_sub hl [0, 1, 2, 3, 4, 5] rfl⟩ (by show pmN F a b - (pq + 1) < pmN F a b - pq; omega)
          · have c_58 := ceq_t (a := nc) (b := 40) c_58 (by omega) (by omega)
            refine lv_sipush (v := (-9004)) hx hb dX5_comes_61 (by decide) ?_
            exact wr_iret C hW hr hlk (⟨_, _, _, hS, by simp [rComes, c_5, c_13, c_26, hz_52, c_58, hcla, hclb, hla, hclla]⟩) dX5_comes_64
        · refine lv_iload_n hx hb dX5_comes_29 rfl (lv_at hl 3 rfl) ?_
          refine lv_if_eq (tgt := 52) hx hb dX5_comes_30 (by decide) (fun c_30 => ?_) (fun c_30 => ?_)
          · exact J_52 (Or.inl c_30)
          · refine lv_aload_n hx hb dX5_comes_33 rfl (lv_at hl 0 rfl) ?_
            refine gf_X5_19 C hW.rd hS.1 rfl dX5_comes_34 ?_
            refine lv_iload_n hx hb dX5_comes_37 rfl (lv_at hl 1 rfl) ?_
            refine r_ialdN (k := a) C hW.rd (RS.i hS 5 60 rfl rfl) (by omega) (by decide) rfl dX5_comes_38 ?_
            refine lv_aload_n hx hb dX5_comes_39 rfl (lv_at hl 0 rfl) ?_
            refine gf_X5_19 C hW.rd hS.1 rfl dX5_comes_40 ?_
            refine lv_iload_n hx hb dX5_comes_43 rfl (lv_at hl 2 rfl) ?_
            refine r_ialdN (k := b) C hW.rd (RS.i hS 5 60 rfl rfl) (by omega) (by decide) rfl dX5_comes_44 ?_
            refine lv_icmp_eq (tgt := 52) hx hb dX5_comes_45 (by decide) (fun c_45 => ?_) (fun c_45 => ?_)
            · exact J_52 (Or.inr c_45)
            · refine lv_sipush (v := (-9003)) hx hb dX5_comes_48 (by decide) ?_
              exact wr_iret C hW hr hlk (⟨_, _, _, hS, by simp [rComes, c_5, c_13, c_26, c_30, c_45, hcla, hclb, hla, hclla]⟩) dX5_comes_51
    · have c_13 : ¬ (inB p2 0 (v 2 - 1) = true) := bz0 h_10 c_13
      refine lv_sipush (v := (-9001)) hx hb dX5_comes_16 (by decide) ?_
      exact wr_iret C hW hr hlk (⟨_, _, _, hS, by simp [rComes, c_5, c_13, hcla]⟩) dX5_comes_19

set_option maxHeartbeats 4000000 in
set_option maxRecDepth 100000 in
theorem c_X5_tie (l : Launch) (D : va_G) (cs : Nat → ClassId) (A : Nat → Prop) (M : wM) (X : Nat) (ad : Nat → Nat) (v : Nat → Int32) (F : Nat → Nat → Int32) (G : Nat → Nat → Int64) (hS : RS cs M X ad v F G) (nn nm nw nc : Nat) (hnn : v 2 = nI nn) (hn60 : nn ≤ 60) (hnm : v 7 = nI nm) (hm40 : nm ≤ 40) (hnw : v 13 = nI nw) (hw12 : nw ≤ 12) (hnc : v 19 = nI nc) (hc40 : nc ≤ 40) (hln : ∀ a, a < nn → ∃ la, la < 4 ∧ F 3 a = nI la) (p1 p2 : Int32) : Met l yX5_tie (mw yX5_tie cX5_tie 3 (some .int)) { frames := 7, cells := 0, slots := 0, locals := 189 } (wrP D cs A M [.ref X, .int p1, .int p2]) (va_Qi (fun r M' => ∃ v' F' G', RS cs M' X ad v' F' G' ∧ (r, v', F') = rComes v F nn nm nw nc p1 p2 1) (wrB D A) A) 0 0 A := by
  refine wr_met rfl (Nat.le_of_ble_eq_true rfl) ?_
  intro p e s m below meth c ls C hW hr hlk hini hl
  have C : kx D cs p m c cX5_tie 3 s _ RX5 := C
  have hx := C.1.1
  have hb := C.1.2.1
  have hl : lv_has ls 3 [(0, .ref X), (1, .int p1), (2, .int p2)] := hl
  refine lv_aload_n hx hb dX5_tie_0 rfl (lv_at hl 0 rfl) ?_
  refine lv_iload_n hx hb dX5_tie_1 rfl (lv_at hl 1 rfl) ?_
  refine lv_iload_n hx hb dX5_tie_2 rfl (lv_at hl 2 rfl) ?_
  refine lv_iconst (v := 1) hx hb dX5_tie_3 (by decide) ?_
  refine wr_goI hW (wr_V (As := [.int p1, .int p2, .int 1]) (rest := []) C hW st_X5_147 (c_X5_comes l D cs A _ X ad v F G hS nn nm nw nc hnn (by omega) hnm (by omega) hnw (by omega) hnc (by omega) hln p1 p2 1 (Or.inr rfl)) hS.1 rfl rfl ⟨rfl, rfl, Nat.le_of_ble_eq_true rfl, Nat.le_of_ble_eq_true rfl⟩ rfl hl.1 rfl (Nat.le_of_ble_eq_true rfl) dX5_tie_4 ⟨Nat.le_of_ble_eq_true rfl, Nat.le_of_ble_eq_true rfl⟩) (fun r_4 M_4 H locs h_4 hW => ?_)
  exact wr_iret C hW hr hlk h_4 dX5_tie_7

set_option maxHeartbeats 4000000 in
set_option maxRecDepth 100000 in
theorem c_X5_slur (l : Launch) (D : va_G) (cs : Nat → ClassId) (A : Nat → Prop) (M : wM) (X : Nat) (ad : Nat → Nat) (v : Nat → Int32) (F : Nat → Nat → Int32) (G : Nat → Nat → Int64) (hS : RS cs M X ad v F G) (nn nm nw nc : Nat) (hnn : v 2 = nI nn) (hn60 : nn ≤ 60) (hnm : v 7 = nI nm) (hm40 : nm ≤ 40) (hnw : v 13 = nI nw) (hw12 : nw ≤ 12) (hnc : v 19 = nI nc) (hc40 : nc ≤ 40) (hln : ∀ a, a < nn → ∃ la, la < 4 ∧ F 3 a = nI la) (p1 p2 : Int32) : Met l yX5_slur (mw yX5_slur cX5_slur 3 (some .int)) { frames := 7, cells := 0, slots := 0, locals := 189 } (wrP D cs A M [.ref X, .int p1, .int p2]) (va_Qi (fun r M' => ∃ v' F' G', RS cs M' X ad v' F' G' ∧ (r, v', F') = rComes v F nn nm nw nc p1 p2 0) (wrB D A) A) 0 0 A := by
  refine wr_met rfl (Nat.le_of_ble_eq_true rfl) ?_
  intro p e s m below meth c ls C hW hr hlk hini hl
  have C : kx D cs p m c cX5_slur 3 s _ RX5 := C
  have hx := C.1.1
  have hb := C.1.2.1
  have hl : lv_has ls 3 [(0, .ref X), (1, .int p1), (2, .int p2)] := hl
  refine lv_aload_n hx hb dX5_slur_0 rfl (lv_at hl 0 rfl) ?_
  refine lv_iload_n hx hb dX5_slur_1 rfl (lv_at hl 1 rfl) ?_
  refine lv_iload_n hx hb dX5_slur_2 rfl (lv_at hl 2 rfl) ?_
  refine lv_iconst (v := 0) hx hb dX5_slur_3 (by decide) ?_
  refine wr_goI hW (wr_V (As := [.int p1, .int p2, .int 0]) (rest := []) C hW st_X5_147 (c_X5_comes l D cs A _ X ad v F G hS nn nm nw nc hnn (by omega) hnm (by omega) hnw (by omega) hnc (by omega) hln p1 p2 0 (Or.inl rfl)) hS.1 rfl rfl ⟨rfl, rfl, Nat.le_of_ble_eq_true rfl, Nat.le_of_ble_eq_true rfl⟩ rfl hl.1 rfl (Nat.le_of_ble_eq_true rfl) dX5_slur_4 ⟨Nat.le_of_ble_eq_true rfl, Nat.le_of_ble_eq_true rfl⟩) (fun r_4 M_4 H locs h_4 hW => ?_)
  exact wr_iret C hW hr hlk h_4 dX5_slur_7


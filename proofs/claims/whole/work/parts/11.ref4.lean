/-- a flag and what it tells -/
def fl (z : Int32) (P : Prop) : Prop := (z = 1 ∧ P) ∨ (z = 0 ∧ ¬ P)
theorem fl_of {z : Int32} {P : Prop} [Decidable P] (h : z = bI P) : fl z P := by
  by_cases q : P
  · exact Or.inl ⟨by rw [h]; simp [bI, q], q⟩
  · exact Or.inr ⟨by rw [h]; simp [bI, q], q⟩
theorem fl_bI {z : Int32} {P : Prop} [Decidable P] (h : fl z P) : z = bI P := by
  rcases h with ⟨e, q⟩ | ⟨e, q⟩ <;> simp [e, bI, q]
theorem fl_iff {z : Int32} {P Q : Prop} (h : fl z P) (e : P ↔ Q) : fl z Q := by
  rcases h with ⟨a, q⟩ | ⟨a, q⟩
  · exact Or.inl ⟨a, e.mp q⟩
  · exact Or.inr ⟨a, fun w => q (e.mpr w)⟩
theorem fl_01 {z : Int32} {P : Prop} (h : fl z P) : z = 0 ∨ z = 1 := h.elim (fun h => Or.inr h.1) (fun h => Or.inl h.1)
theorem fl_or {z : Int32} {X Y : Prop} (h : fl z X) (hf : ¬ Y) : fl z (X ∨ Y) := fl_iff h ⟨Or.inl, fun w => w.elim id (fun q => absurd q hf)⟩
theorem fl_ex {z : Int32} {X A B B' C : Prop} (h : fl z ((X ∨ A) ∨ B)) (mono : B → B') (hc : (B' → B) ∨ ¬ z = 0) (e : C ↔ A ∨ B') : fl z (X ∨ C) := by
  rcases h with ⟨a, q⟩ | ⟨a, q⟩
  · exact Or.inl ⟨a, q.elim (fun q => q.elim Or.inl (fun q => Or.inr (e.mpr (Or.inl q)))) (fun q => Or.inr (e.mpr (Or.inr (mono q))))⟩
  · rcases hc with hc | hc
    · exact Or.inr ⟨a, fun w => q (w.elim (fun w => Or.inl (Or.inl w)) (fun w => (e.mp w).elim (fun r => Or.inl (Or.inr r)) (fun r => Or.inr (hc r))))⟩
    · exact absurd a hc
theorem fl_st {z r : Int32} {X B B' C : Prop} [Decidable C] (h : fl z (X ∨ B)) (c : z = 0) (hr : r = bI C) (e : B' ↔ B ∨ C) : fl r (X ∨ B') := by
  have hn : ¬ (X ∨ B) := by
    rcases h with ⟨a, q⟩ | ⟨a, q⟩
    · rw [a] at c; exact absurd c (by decide)
    · exact q
  exact fl_iff (fl_of hr) ⟨fun w => Or.inr (e.mpr (Or.inr w)), fun w => w.elim (fun w => absurd (Or.inl w) hn) (fun w => (e.mp w).elim (fun w => absurd (Or.inr w) hn) id)⟩
def oL (G : Nat → Nat → Int64) (i j k n : Nat) : Prop := ∃ q, k < q ∧ q < n ∧ rCr G i j k q = true
def oK (G : Nat → Nat → Int64) (i j k : Nat) : Prop := ∃ q, q < k ∧ oL G i j q 4
def oJ (G : Nat → Nat → Int64) (i j : Nat) : Prop := ∃ q, i < q ∧ q < j ∧ oK G i q 4
def oI (G : Nat → Nat → Int64) (i : Nat) : Prop := ∃ q, q < i ∧ oJ G q 4
abbrev oW (G : Nat → Nat → Int64) : Prop := rWt (G 32) (G 33) (G 34 0) (G 35 0) 4 = true ∨ rWt (G 34) (G 35) (G 32 0) (G 33 0) 4 = true
theorem oL_s {G : Nat → Nat → Int64} {i j k n : Nat} (h : k < n) : oL G i j k (n + 1) ↔ oL G i j k n ∨ rCr G i j k n = true := by
  constructor
  · rintro ⟨q, a, b, d⟩
    by_cases e : q = n
    · subst e; exact Or.inr d
    · exact Or.inl ⟨q, a, by omega, d⟩
  · rintro (⟨q, a, b, d⟩ | d)
    · exact ⟨q, a, by omega, d⟩
    · exact ⟨n, h, by omega, d⟩
theorem oK_s {G : Nat → Nat → Int64} {i j k : Nat} : oK G i j (k + 1) ↔ oK G i j k ∨ oL G i j k 4 := by
  constructor
  · rintro ⟨q, a, d⟩
    by_cases e : q = k
    · subst e; exact Or.inr d
    · exact Or.inl ⟨q, by omega, d⟩
  · rintro (⟨q, a, d⟩ | d)
    · exact ⟨q, by omega, d⟩
    · exact ⟨k, by omega, d⟩
theorem oJ_s {G : Nat → Nat → Int64} {i j : Nat} (h : i < j) : oJ G i (j + 1) ↔ oJ G i j ∨ oK G i j 4 := by
  constructor
  · rintro ⟨q, a, b, d⟩
    by_cases e : q = j
    · subst e; exact Or.inr d
    · exact Or.inl ⟨q, a, by omega, d⟩
  · rintro (⟨q, a, b, d⟩ | d)
    · exact ⟨q, a, by omega, d⟩
    · exact ⟨j, h, by omega, d⟩
theorem oI_s {G : Nat → Nat → Int64} {i : Nat} : oI G (i + 1) ↔ oI G i ∨ oJ G i 4 := by
  constructor
  · rintro ⟨q, a, d⟩
    by_cases e : q = i
    · subst e; exact Or.inr d
    · exact Or.inl ⟨q, by omega, d⟩
  · rintro (⟨q, a, d⟩ | d)
    · exact ⟨q, by omega, d⟩
    · exact ⟨i, by omega, d⟩
def rMeet (G : Nat → Nat → Int64) : Bool := rWt (G 32) (G 33) (G 34 0) (G 35 0) 4 || rWt (G 34) (G 35) (G 32 0) (G 33 0) 4 || (List.range 4).any fun i => (List.range 4).any fun j => decide (i < j) && (List.range 4).any fun k => (List.range 4).any fun n => decide (k < n) && rCr G i j k n
theorem rMeet_iff (G : Nat → Nat → Int64) : rMeet G = true ↔ oW G ∨ oI G 4 := by
  unfold rMeet oI oJ oK oL oW
  simp only [Bool.or_eq_true, List.any_eq_true, List.mem_range, Bool.and_eq_true, decide_eq_true_eq]
  constructor
  · rintro (h | ⟨i, hi, j, hj, hij, k, hk, n, hn, hkn, hc⟩)
    · exact Or.inl h
    · exact Or.inr ⟨i, hi, j, hij, hj, k, hk, n, hkn, hn, hc⟩
  · rintro (h | ⟨i, hi, j, hij, hj, k, hk, n, hkn, hn, hc⟩)
    · exact Or.inl h
    · exact Or.inr ⟨i, hi, j, hj, hij, k, hk, n, hn, hkn, hc⟩
set_option maxHeartbeats 4000000 in
set_option maxRecDepth 100000 in
theorem c_X5_meets (l : Launch) (D : va_G) (cs : Nat → ClassId) (M : wM) (X : Nat) (ad : Nat → Nat) (v : Nat → Int32) (F : Nat → Nat → Int32) (G : Nat → Nat → Int64) (hS : RS cs M X ad v F G)  : Met l yX5_meets (mw yX5_meets cX5_meets 6 (some .boolean)) { frames := 3, cells := 0, slots := 0, locals := 88 } (roP D cs M [.ref X]) (vp_Si (fun r => r = bI (rMeet G = true))) 0 0 noA := by
  refine ro_met rfl (Nat.le_of_ble_eq_true rfl) ?_
  intro p e s m below meth c ls C hR hr hlk hl
  have C : kx D cs p m c cX5_meets 6 s _ RX5 := C
  have hx := C.1.1
  have hb := C.1.2.1
  have hl : lv_has ls 6 [(0, .ref X)] := hl
  refine W.cut (fun z => z = bI (oW G)) (fun z => F0 m 57 ls (.int z :: [])) (fun z_57 hz_57 => ?_) (fun J_57 => ?_)
  · refine lv_istore_n (lv' := [(1, .int z_57), (0, .ref X)]) hx hb dX5_meets_57 rfl hl (by decide) rfl (fun ls hl => ?_)
    refine lv_iconst (v := 0) hx hb dX5_meets_58 (by decide) ?_
    refine lv_istore_n (lv' := [(2, .int 0), (1, .int z_57), (0, .ref X)]) hx hb dX5_meets_59 rfl hl (by decide) rfl (fun ls hl => ?_)
    refine W.loop (σ := Nat × Int32 × Array Slot) (fun ⟨i, z, ls⟩ => F0 m 60 ls []) (fun ⟨i, z, ls⟩ => (i ≤ 4) ∧ (fl z (oW G ∨ oI G i)) ∧ lv_has ls 6 [(1, .int z), (2, .int (nI i)), (0, .ref X)]) (fun ⟨i, z, ls⟩ => 4 - i) ?_ (0, z_57, _) ⟨by omega, fl_or (fl_of hz_57) (fun ⟨q, h, _⟩ => absurd h (by omega)), lv_sub hl [1, 0, 2] rfl⟩ rfl
    intro ⟨i, z, ls⟩ ⟨hi, hz, hl⟩ ih_60
    show W _ _ _ _ _ _ _ _ _ _ _ _ _ _ _ (F0 m 60 ls [])
    have hl : lv_has ls 6 [(1, .int z), (2, .int (nI i)), (0, .ref X)] := hl
    refine lv_iload_n hx hb dX5_meets_60 rfl (lv_at hl 1 rfl) ?_
    refine lv_iconst (v := 4) hx hb dX5_meets_61 (by decide) ?_
    refine lv_icmp_ge (tgt := 146) hx hb dX5_meets_62 (by decide) (fun c_62 => ?_) (fun c_62 => ?_)
    · have c_62 := cle_t (a := 4) (b := i) c_62 (by omega) (by omega)
      refine lv_iload_n hx hb dX5_meets_146 rfl (lv_at hl 0 rfl) ?_
      exact ro_zret C hr hlk (z_nar (fl_01 hz)) (fl_bI (fl_iff (fl_ex (X := oW G) (A := False) (B := oI G i) (B' := oI G 4) (C := oI G 4) (fl_iff hz ⟨fun h => h.elim (fun h => Or.inl (Or.inl h)) Or.inr, fun h => h.elim (fun h => h.elim Or.inl False.elim) Or.inr⟩) (fun ⟨q, a, d⟩ => ⟨q, by omega, d⟩) (Or.inl (fun ⟨q, a, d⟩ => ⟨q, by omega, d⟩)) ⟨Or.inr, fun h => h.elim False.elim id⟩) (rMeet_iff G).symm)) dX5_meets_147
    · have c_62 := cle_f (a := 4) (b := i) c_62 (by omega) (by omega)
      refine lv_iload_n hx hb dX5_meets_65 rfl (lv_at hl 0 rfl) ?_
      refine lv_if_ne (tgt := 146) hx hb dX5_meets_66 (by decide) (fun c_66 => ?_) (fun c_66 => ?_)
      · refine lv_iload_n hx hb dX5_meets_146 rfl (lv_at hl 0 rfl) ?_
        exact ro_zret C hr hlk (z_nar (fl_01 hz)) (fl_bI (fl_iff (fl_ex (X := oW G) (A := False) (B := oI G i) (B' := oI G 4) (C := oI G 4) (fl_iff hz ⟨fun h => h.elim (fun h => Or.inl (Or.inl h)) Or.inr, fun h => h.elim (fun h => h.elim Or.inl False.elim) Or.inr⟩) (fun ⟨q, a, d⟩ => ⟨q, by omega, d⟩) (Or.inr c_66) ⟨Or.inr, fun h => h.elim False.elim id⟩) (rMeet_iff G).symm)) dX5_meets_147
      · refine lv_iload_n hx hb dX5_meets_69 rfl (lv_at hl 1 rfl) ?_
        refine lv_iconst (v := 1) hx hb dX5_meets_70 (by decide) ?_
        refine lv_iadd hx hb dX5_meets_71 ?_
        refine top_eq (y := nI (i + 1)) (tn_add rfl rfl) ?_
        refine lv_istore_n (lv' := [(3, .int (nI (i + 1))), (1, .int z), (2, .int (nI i)), (0, .ref X)]) hx hb dX5_meets_72 rfl hl (by decide) rfl (fun ls hl => ?_)
        refine W.loop (σ := Nat × Int32 × Array Slot) (fun ⟨j, z, ls⟩ => F0 m 73 ls []) (fun ⟨j, z, ls⟩ => (j ≤ 4) ∧ (i < j) ∧ (fl z ((oW G ∨ oI G i) ∨ oJ G i j)) ∧ lv_has ls 6 [(1, .int z), (3, .int (nI j)), (2, .int (nI i)), (0, .ref X)]) (fun ⟨j, z, ls⟩ => 4 - j) ?_ ((i + 1), z, _) ⟨by omega, by omega, fl_or hz (fun ⟨q, a, b, _⟩ => absurd b (by omega)), lv_sub hl [1, 0, 2, 3] rfl⟩ rfl
        intro ⟨j, z, ls⟩ ⟨hj, hij, hz, hl⟩ ih_73
        show W _ _ _ _ _ _ _ _ _ _ _ _ _ _ _ (F0 m 73 ls [])
        have hl : lv_has ls 6 [(1, .int z), (3, .int (nI j)), (2, .int (nI i)), (0, .ref X)] := hl
        refine lv_iload_n hx hb dX5_meets_73 rfl (lv_at hl 1 rfl) ?_
        refine lv_iconst (v := 4) hx hb dX5_meets_74 (by decide) ?_
        refine lv_icmp_ge (tgt := 140) hx hb dX5_meets_75 (by decide) (fun c_75 => ?_) (fun c_75 => ?_)
        · have c_75 := cle_t (a := 4) (b := j) c_75 (by omega) (by omega)
          refine lv_iinc (v := nI (i + 1)) (lv' := [(2, .int (nI (i + 1))), (1, .int z), (3, .int (nI j)), (0, .ref X)]) hx hb dX5_meets_140 hl (k := 2) rfl (by exact tn_add rfl rfl) (by decide) rfl (fun ls hl => ?_)
          refine lv_goto (tgt := 60) hx hb dX5_meets_143 (by decide) ?_
          exact ih_60 ((i + 1), z, _) ⟨by omega, fl_ex hz (fun ⟨q, a, b, d⟩ => ⟨q, a, by omega, d⟩) (Or.inl (fun ⟨q, a, b, d⟩ => ⟨q, a, by omega, d⟩)) oI_s, lv_sub hl [1, 0, 3] rfl⟩ (by show 4 - (i + 1) < 4 - i; omega)
        · have c_75 := cle_f (a := 4) (b := j) c_75 (by omega) (by omega)
          refine lv_iload_n hx hb dX5_meets_78 rfl (lv_at hl 0 rfl) ?_
          refine lv_if_ne (tgt := 140) hx hb dX5_meets_79 (by decide) (fun c_79 => ?_) (fun c_79 => ?_)
          · refine lv_iinc (v := nI (i + 1)) (lv' := [(2, .int (nI (i + 1))), (1, .int z), (3, .int (nI j)), (0, .ref X)]) hx hb dX5_meets_140 hl (k := 2) rfl (by exact tn_add rfl rfl) (by decide) rfl (fun ls hl => ?_)
            refine lv_goto (tgt := 60) hx hb dX5_meets_143 (by decide) ?_
            exact ih_60 ((i + 1), z, _) ⟨by omega, fl_ex hz (fun ⟨q, a, b, d⟩ => ⟨q, a, by omega, d⟩) (Or.inr c_79) oI_s, lv_sub hl [1, 0, 3] rfl⟩ (by show 4 - (i + 1) < 4 - i; omega)
          · refine lv_iconst (v := 0) hx hb dX5_meets_82 (by decide) ?_
            refine lv_istore (lv' := [(4, .int 0), (1, .int z), (3, .int (nI j)), (2, .int (nI i)), (0, .ref X)]) hx hb dX5_meets_83 hl (by decide) rfl (fun ls hl => ?_)
            refine W.loop (σ := Nat × Int32 × Array Slot) (fun ⟨k, z, ls⟩ => F0 m 85 ls []) (fun ⟨k, z, ls⟩ => (k ≤ 4) ∧ (fl z (((oW G ∨ oI G i) ∨ oJ G i j) ∨ oK G i j k)) ∧ lv_has ls 6 [(1, .int z), (4, .int (nI k)), (3, .int (nI j)), (2, .int (nI i)), (0, .ref X)]) (fun ⟨k, z, ls⟩ => 4 - k) ?_ (0, z, _) ⟨by omega, fl_or hz (fun ⟨q, a, _⟩ => absurd a (by omega)), lv_sub hl [1, 0, 2, 3, 4] rfl⟩ rfl
            intro ⟨k, z, ls⟩ ⟨hk, hz, hl⟩ ih_85
            show W _ _ _ _ _ _ _ _ _ _ _ _ _ _ _ (F0 m 85 ls [])
            have hl : lv_has ls 6 [(1, .int z), (4, .int (nI k)), (3, .int (nI j)), (2, .int (nI i)), (0, .ref X)] := hl
            refine lv_iload hx hb dX5_meets_85 (lv_at hl 1 rfl) ?_
            refine lv_iconst (v := 4) hx hb dX5_meets_87 (by decide) ?_
            refine lv_icmp_ge (tgt := 134) hx hb dX5_meets_88 (by decide) (fun c_88 => ?_) (fun c_88 => ?_)
            · have c_88 := cle_t (a := 4) (b := k) c_88 (by omega) (by omega)
              refine lv_iinc (v := nI (j + 1)) (lv' := [(3, .int (nI (j + 1))), (1, .int z), (4, .int (nI k)), (2, .int (nI i)), (0, .ref X)]) hx hb dX5_meets_134 hl (k := 2) rfl (by exact tn_add rfl rfl) (by decide) rfl (fun ls hl => ?_)
              refine lv_goto (tgt := 73) hx hb dX5_meets_137 (by decide) ?_
              exact ih_73 ((j + 1), z, _) ⟨by omega, by omega, fl_ex hz (fun ⟨q, a, d⟩ => ⟨q, by omega, d⟩) (Or.inl (fun ⟨q, a, d⟩ => ⟨q, by omega, d⟩)) (oJ_s (by omega)), lv_sub hl [1, 0, 3, 4] rfl⟩ (by show 4 - (j + 1) < 4 - j; omega)
            · have c_88 := cle_f (a := 4) (b := k) c_88 (by omega) (by omega)
              refine lv_iload_n hx hb dX5_meets_91 rfl (lv_at hl 0 rfl) ?_
              refine lv_if_ne (tgt := 134) hx hb dX5_meets_92 (by decide) (fun c_92 => ?_) (fun c_92 => ?_)
              · refine lv_iinc (v := nI (j + 1)) (lv' := [(3, .int (nI (j + 1))), (1, .int z), (4, .int (nI k)), (2, .int (nI i)), (0, .ref X)]) hx hb dX5_meets_134 hl (k := 2) rfl (by exact tn_add rfl rfl) (by decide) rfl (fun ls hl => ?_)
                refine lv_goto (tgt := 73) hx hb dX5_meets_137 (by decide) ?_
                exact ih_73 ((j + 1), z, _) ⟨by omega, by omega, fl_ex hz (fun ⟨q, a, d⟩ => ⟨q, by omega, d⟩) (Or.inr c_92) (oJ_s (by omega)), lv_sub hl [1, 0, 3, 4] rfl⟩ (by show 4 - (j + 1) < 4 - j; omega)
              · refine lv_iload hx hb dX5_meets_95 (lv_at hl 1 rfl) ?_
                refine lv_iconst (v := 1) hx hb dX5_meets_97 (by decide) ?_
                refine lv_iadd hx hb dX5_meets_98 ?_
                refine top_eq (y := nI (k + 1)) (tn_add rfl rfl) ?_
                refine lv_istore (lv' := [(5, .int (nI (k + 1))), (1, .int z), (4, .int (nI k)), (3, .int (nI j)), (2, .int (nI i)), (0, .ref X)]) hx hb dX5_meets_99 hl (by decide) rfl (fun ls hl => ?_)
                refine W.loop (σ := Nat × Int32 × Array Slot) (fun ⟨n, z, ls⟩ => F0 m 101 ls []) (fun ⟨n, z, ls⟩ => (n ≤ 4) ∧ (k < n) ∧ (fl z ((((oW G ∨ oI G i) ∨ oJ G i j) ∨ oK G i j k) ∨ oL G i j k n)) ∧ lv_has ls 6 [(1, .int z), (5, .int (nI n)), (4, .int (nI k)), (3, .int (nI j)), (2, .int (nI i)), (0, .ref X)]) (fun ⟨n, z, ls⟩ => 4 - n) ?_ ((k + 1), z, _) ⟨by omega, by omega, fl_or hz (fun ⟨q, a, b, _⟩ => absurd b (by omega)), lv_sub hl [1, 0, 2, 3, 4, 5] rfl⟩ rfl
                intro ⟨n, z, ls⟩ ⟨hn, hkn, hz, hl⟩ ih_101
                show W _ _ _ _ _ _ _ _ _ _ _ _ _ _ _ (F0 m 101 ls [])
                have hl : lv_has ls 6 [(1, .int z), (5, .int (nI n)), (4, .int (nI k)), (3, .int (nI j)), (2, .int (nI i)), (0, .ref X)] := hl
                refine lv_iload hx hb dX5_meets_101 (lv_at hl 1 rfl) ?_
                refine lv_iconst (v := 4) hx hb dX5_meets_103 (by decide) ?_
                refine lv_icmp_ge (tgt := 128) hx hb dX5_meets_104 (by decide) (fun c_104 => ?_) (fun c_104 => ?_)
                · have c_104 := cle_t (a := 4) (b := n) c_104 (by omega) (by omega)
                  refine lv_iinc (v := nI (k + 1)) (lv' := [(4, .int (nI (k + 1))), (1, .int z), (5, .int (nI n)), (3, .int (nI j)), (2, .int (nI i)), (0, .ref X)]) hx hb dX5_meets_128 hl (k := 2) rfl (by exact tn_add rfl rfl) (by decide) rfl (fun ls hl => ?_)
                  refine lv_goto (tgt := 85) hx hb dX5_meets_131 (by decide) ?_
                  exact ih_85 ((k + 1), z, _) ⟨by omega, fl_ex hz (fun ⟨q, a, b, d⟩ => ⟨q, a, by omega, d⟩) (Or.inl (fun ⟨q, a, b, d⟩ => ⟨q, a, by omega, d⟩)) oK_s, lv_sub hl [1, 0, 3, 4, 5] rfl⟩ (by show 4 - (k + 1) < 4 - k; omega)
                · have c_104 := cle_f (a := 4) (b := n) c_104 (by omega) (by omega)
                  refine lv_iload_n hx hb dX5_meets_107 rfl (lv_at hl 0 rfl) ?_
                  refine lv_if_ne (tgt := 128) hx hb dX5_meets_108 (by decide) (fun c_108 => ?_) (fun c_108 => ?_)
                  · refine lv_iinc (v := nI (k + 1)) (lv' := [(4, .int (nI (k + 1))), (1, .int z), (5, .int (nI n)), (3, .int (nI j)), (2, .int (nI i)), (0, .ref X)]) hx hb dX5_meets_128 hl (k := 2) rfl (by exact tn_add rfl rfl) (by decide) rfl (fun ls hl => ?_)
                    refine lv_goto (tgt := 85) hx hb dX5_meets_131 (by decide) ?_
                    exact ih_85 ((k + 1), z, _) ⟨by omega, fl_ex hz (fun ⟨q, a, b, d⟩ => ⟨q, a, by omega, d⟩) (Or.inr c_108) oK_s, lv_sub hl [1, 0, 3, 4, 5] rfl⟩ (by show 4 - (k + 1) < 4 - k; omega)
                  · refine lv_aload_n hx hb dX5_meets_111 rfl (lv_at hl 5 rfl) ?_
                    refine lv_iload_n hx hb dX5_meets_112 rfl (lv_at hl 4 rfl) ?_
                    refine lv_iload_n hx hb dX5_meets_113 rfl (lv_at hl 3 rfl) ?_
                    refine lv_iload hx hb dX5_meets_114 (lv_at hl 2 rfl) ?_
                    refine lv_iload hx hb dX5_meets_116 (lv_at hl 1 rfl) ?_
                    refine ro_goI (ro_V (As := [.int (nI i), .int (nI j), .int (nI k), .int (nI n)]) (rest := []) C hR st_X5_187 (c_X5_cross l D cs _ X ad v F G hS i j k n (by omega) (by omega) (by omega) (by omega)) hS.1 rfl rfl ⟨rfl, rfl, Nat.le_of_ble_eq_true rfl, Nat.le_of_ble_eq_true rfl⟩ rfl hl.1 rfl (Nat.le_of_ble_eq_true rfl) dX5_meets_118 ⟨Nat.le_of_ble_eq_true rfl, Nat.le_of_ble_eq_true rfl⟩) (fun r_118 h_118 => ?_)
                    refine lv_istore_n (lv' := [(1, .int r_118), (5, .int (nI n)), (4, .int (nI k)), (3, .int (nI j)), (2, .int (nI i)), (0, .ref X)]) hx hb dX5_meets_121 rfl hl (by decide) rfl (fun ls hl => ?_)
                    refine lv_iinc (v := nI (n + 1)) (lv' := [(5, .int (nI (n + 1))), (1, .int r_118), (4, .int (nI k)), (3, .int (nI j)), (2, .int (nI i)), (0, .ref X)]) hx hb dX5_meets_122 hl (k := 1) rfl (by exact tn_add rfl rfl) (by decide) rfl (fun ls hl => ?_)
                    refine lv_goto (tgt := 101) hx hb dX5_meets_125 (by decide) ?_
                    exact ih_101 ((n + 1), r_118, _) ⟨by omega, by omega, fl_st hz c_108 h_118 (oL_s (by omega)), lv_sub hl [1, 0, 2, 3, 4, 5] rfl⟩ (by show 4 - (n + 1) < 4 - n; omega)
  · refine lv_aload_n hx hb dX5_meets_0 rfl (lv_at hl 0 rfl) ?_
    refine gf_X5_92 C hR hS.1 rfl dX5_meets_1 ?_
    refine lv_aload_n hx hb dX5_meets_4 rfl (lv_at hl 0 rfl) ?_
    refine gf_X5_96 C hR hS.1 rfl dX5_meets_5 ?_
    refine lv_aload_n hx hb dX5_meets_8 rfl (lv_at hl 0 rfl) ?_
    refine gf_X5_99 C hR hS.1 rfl dX5_meets_9 ?_
    refine lv_iconst (v := 0) hx hb dX5_meets_12 (by decide) ?_
    refine r_laldN (k := 0) C hR (RS.j hS 34 4 rfl rfl) (by omega) (by decide) rfl dX5_meets_13 ?_
    refine lv_aload_n hx hb dX5_meets_14 rfl (lv_at hl 0 rfl) ?_
    refine gf_X5_102 C hR hS.1 rfl dX5_meets_15 ?_
    refine lv_iconst (v := 0) hx hb dX5_meets_18 (by decide) ?_
    refine r_laldN (k := 0) C hR (RS.j hS 35 4 rfl rfl) (by omega) (by decide) rfl dX5_meets_19 ?_
    refine ro_goI (ro_S (As := [.ref (ad 32), .ref (ad 33), .long (G 34 0), .long (G 35 0)]) (rest := []) C hR st_X5_183 (c_X5_isWithin l D cs _ (ad 32) (ad 33) (G 32) (G 33) (RS.j hS 32 4 rfl rfl) (RS.j hS 33 4 rfl rfl) (G 34 0) (G 35 0)) ⟨rfl, rfl, Nat.le_of_ble_eq_true rfl, Nat.le_of_ble_eq_true rfl⟩ rfl hl.1 rfl (Nat.le_of_ble_eq_true rfl) dX5_meets_20 ⟨Nat.le_of_ble_eq_true rfl, Nat.le_of_ble_eq_true rfl⟩) (fun r_20 h_20 => ?_)
    refine lv_if_ne (tgt := 52) hx hb dX5_meets_23 (by decide) (fun c_23 => ?_) (fun c_23 => ?_)
    · have c_23 : rWt (G 32) (G 33) (G 34 0) (G 35 0) 4 = true := bz1 h_20 c_23
      refine lv_iconst (v := 1) hx hb dX5_meets_52 (by decide) ?_
      refine lv_goto (tgt := 57) hx hb dX5_meets_53 (by decide) ?_
      exact J_57 _ (bI_t (by simp [oW, c_23]))
    · have c_23 : ¬ (rWt (G 32) (G 33) (G 34 0) (G 35 0) 4 = true) := bz0 h_20 c_23
      refine lv_aload_n hx hb dX5_meets_26 rfl (lv_at hl 0 rfl) ?_
      refine gf_X5_99 C hR hS.1 rfl dX5_meets_27 ?_
      refine lv_aload_n hx hb dX5_meets_30 rfl (lv_at hl 0 rfl) ?_
      refine gf_X5_102 C hR hS.1 rfl dX5_meets_31 ?_
      refine lv_aload_n hx hb dX5_meets_34 rfl (lv_at hl 0 rfl) ?_
      refine gf_X5_92 C hR hS.1 rfl dX5_meets_35 ?_
      refine lv_iconst (v := 0) hx hb dX5_meets_38 (by decide) ?_
      refine r_laldN (k := 0) C hR (RS.j hS 32 4 rfl rfl) (by omega) (by decide) rfl dX5_meets_39 ?_
      refine lv_aload_n hx hb dX5_meets_40 rfl (lv_at hl 0 rfl) ?_
      refine gf_X5_96 C hR hS.1 rfl dX5_meets_41 ?_
      refine lv_iconst (v := 0) hx hb dX5_meets_44 (by decide) ?_
      refine r_laldN (k := 0) C hR (RS.j hS 33 4 rfl rfl) (by omega) (by decide) rfl dX5_meets_45 ?_
      refine ro_goI (ro_S (As := [.ref (ad 34), .ref (ad 35), .long (G 32 0), .long (G 33 0)]) (rest := []) C hR st_X5_183 (c_X5_isWithin l D cs _ (ad 34) (ad 35) (G 34) (G 35) (RS.j hS 34 4 rfl rfl) (RS.j hS 35 4 rfl rfl) (G 32 0) (G 33 0)) ⟨rfl, rfl, Nat.le_of_ble_eq_true rfl, Nat.le_of_ble_eq_true rfl⟩ rfl hl.1 rfl (Nat.le_of_ble_eq_true rfl) dX5_meets_46 ⟨Nat.le_of_ble_eq_true rfl, Nat.le_of_ble_eq_true rfl⟩) (fun r_46 h_46 => ?_)
      refine lv_if_eq (tgt := 56) hx hb dX5_meets_49 (by decide) (fun c_49 => ?_) (fun c_49 => ?_)
      · have c_49 : ¬ (rWt (G 34) (G 35) (G 32 0) (G 33 0) 4 = true) := bz0 h_46 c_49
        refine lv_iconst (v := 0) hx hb dX5_meets_56 (by decide) ?_
        exact J_57 _ (bI_f (by simp [oW, c_23, c_49]))
      · have c_49 : rWt (G 34) (G 35) (G 32 0) (G 33 0) 4 = true := bz1 h_46 c_49
        refine lv_iconst (v := 1) hx hb dX5_meets_52 (by decide) ?_
        refine lv_goto (tgt := 57) hx hb dX5_meets_53 (by decide) ?_
        exact J_57 _ (bI_t (by simp [oW, c_23, c_49]))


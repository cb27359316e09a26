theorem LI.S {D : va_G} {cs : Nat → ClassId} {s : State} {Z X : Nat} {H : Heap} {locs : List Loc} (h : LI D cs s Z X H locs) : va_S (aN s) s.heap H locs := by
  obtain ⟨M, N, lab, ad, w, E, J, nn, nb, nc, np, NA, BA, CA, PA, ad2, v, F, G, nl, nm, nw, fp, hS, h2, hC, hR, hP⟩ := h
  exact hS
/-- the loop goes on only where six numbers are left -/
theorem lp_le {L i : Nat} (hL : L ≤ 3072) (hi : i ≤ L) (h : ¬ (nI L - 6 < nI i)) : i + 6 ≤ L := by
  rw [Int32.lt_iff_toInt_lt, Int32.toInt_sub, nI_toInt (by omega), nI_toInt (by omega), show (6 : Int32).toInt = 6 from rfl, Int.bmod_eq_of_le (by omega) (by omega)] at h
  omega
set_option maxHeartbeats 4000000 in
set_option maxRecDepth 100000 in
theorem law_loop {p : Program} {l : Launch} {e : Env} {s : State} {m : MethodId} {below : List Frame} {meth : Method} {c : Code} {D : va_G} {cs : Nat → ClassId} {b L Z X : Nat} {xs : Nat → Int32} (C : kx D cs p m c cL_law 4 s #[Value.ref b] RL) (hX : va_X b L xs s s.heap) (hbl : b < s.heap.size) (hL : L ≤ 3072) (hr : meth.sig.returnType = ret) (hlocks : meth.locks = false) (hc5 : 4649 ≤ room_1.cells) (hs5 : 30251 ≤ room_1.slots) : ∀ (n j i : Nat) (H : Heap) (locs : List Loc) (ls : Array Slot), 513 - j < n → i = 6 * j → i ≤ L → lv_has ls 4 [(3, .int (nI i)), (0, .ref b), (1, .ref Z), (2, .ref X)] → LI D cs s Z X H locs → W p l e room_1 s m #[Value.ref b] below meth c H locs (41 + 9 * j) (1579 + 56 * j) (lw_Z below #[Value.ref b] s) (F0 m 18 ls []) := by
  intro n
  induction n with
  | zero => intro j i H locs ls h; exact absurd h (Nat.not_lt_zero _)
  | succ n ih =>
    intro j i H locs ls hn hij hiL hl hI
    have hx := C.1.1
    have hb := C.1.2.1
    have hbA : ¬ aN s b := Nat.not_le.mpr hbl
    have hS : va_S (aN s) s.heap H locs := hI.S
    refine lv_iload_n hx hb dL_law_18 rfl (lv_at hl 0 rfl) ?_
    refine lv_aload_n hx hb dL_law_19 rfl (lv_at hl 1 rfl) ?_
    refine va_slen hx hb hX hbl hbA hS dL_law_20 ?_
    refine lv_bipush (v := 6) hx hb dL_law_21 (by decide) ?_
    refine lv_isub hx hb dL_law_23 ?_
    refine lv_icmp_gt (tgt := 736) hx hb dL_law_24 (by decide) (fun c1 => ?_) (fun c1 => ?_)
    · refine va_forget (fun q hq => hS.2.2 q hq) ?_
      refine W.widen (k := room_1.cells) (n := room_1.slots) (by omega) (by omega) ?_
      refine lv_iconst (v := 1) hx hb dL_law_736 (by decide) ?_
      exact lw_ret hx hb hr hlocks dL_law_737
    · have hi6 : i + 6 ≤ L := lp_le hL hiL c1
      have nxt : ∀ (H1 : Heap) (locs1 : List Loc), LI D cs s Z X H1 locs1 → W p l e room_1 s m #[Value.ref b] below meth c H1 locs1 (41 + 9 * j + 9) (1579 + 56 * j + 56) (lw_Z below #[Value.ref b] s) (F0 m 730 ls []) := fun H1 locs1 hI1 => by
        refine lv_iinc (v := nI (i + 6)) (lv' := [(3, .int (nI (i + 6))), (0, .ref b), (1, .ref Z), (2, .ref X)]) hx hb dL_law_730 hl (k := 0) rfl (by exact tn_add rfl rfl) (by decide) rfl (fun ls1 hl1 => ?_)
        refine lv_goto (tgt := 18) hx hb dL_law_733 (by decide) ?_
        have h := ih (j + 1) (i + 6) H1 locs1 ls1 (by omega) (by omega) hi6 hl1 hI1
        rw [show 41 + 9 * (j + 1) = 41 + 9 * j + 9 by omega, show 1579 + 56 * (j + 1) = 1579 + 56 * j + 56 by omega] at h
        exact h
      have hc1 : 41 + 9 * j + 9 ≤ room_1.cells := by omega
      have hs1 : 1579 + 56 * j + 56 ≤ room_1.slots := by omega
      refine lv_aload_n hx hb dL_law_27 rfl (lv_at hl 1 rfl) ?_
      refine lv_iload_n hx hb dL_law_28 rfl (lv_at hl 0 rfl) ?_
      refine va_sld hx hb hX hbl hbA hS (vp_in_nI (by omega) (by omega)) dL_law_29 ?_
      refine lv_bipush (v := 15) hx hb dL_law_30 (by decide) ?_
      refine lv_iand hx hb dL_law_32 ?_
      refine lv_topi (fun w ew => ?_)
      rcases sw_cases w 14 with h | ⟨k, hk, ek⟩
      · refine sw_out (tgt := 730) C h dL_law_33 (by decide) ?_
        refine W.widen (k := 41 + 9 * j + 9) (n := 1579 + 56 * j + 56) (by omega) (by omega) ?_
        exact nxt H locs hI
      · rcases (show k = 0 ∨ k = 1 ∨ k = 2 ∨ k = 3 ∨ k = 4 ∨ k = 5 ∨ k = 6 ∨ k = 7 ∨ k = 8 ∨ k = 9 ∨ k = 10 ∨ k = 11 ∨ k = 12 ∨ k = 13 ∨ k = 14 by omega) with rfl | rfl | rfl | rfl | rfl | rfl | rfl | rfl | rfl | rfl | rfl | rfl | rfl | rfl | rfl
        · refine sw_in (tgt := 108) C 0 ek (by decide) (by decide) dL_law_33 rfl (by decide) ?_
          exact law_line C hX hbl hL hi6 hc1 hs1 hl hI nxt
        · refine sw_in (tgt := 131) C 1 ek (by decide) (by decide) dL_law_33 rfl (by decide) ?_
          exact law_note C hX hbl hL hi6 hc1 hs1 hl hI nxt
        · refine sw_in (tgt := 200) C 2 ek (by decide) (by decide) dL_law_33 rfl (by decide) ?_
          exact law_mark C hX hbl hL hi6 hc1 hs1 hl hI nxt
        · refine sw_in (tgt := 263) C 3 ek (by decide) (by decide) dL_law_33 rfl (by decide) ?_
          exact law_wedge C hX hbl hL hi6 hc1 hs1 hl hI nxt
        · refine sw_in (tgt := 326) C 4 ek (by decide) (by decide) dL_law_33 rfl (by decide) ?_
          exact law_tie C hX hbl hL hi6 hc1 hs1 hl hI nxt
        · refine sw_in (tgt := 359) C 5 ek (by decide) (by decide) dL_law_33 rfl (by decide) ?_
          exact law_slur C hX hbl hL hi6 hc1 hs1 hl hI nxt
        · refine sw_in (tgt := 392) C 6 ek (by decide) (by decide) dL_law_33 rfl (by decide) ?_
          exact law_again C hX hbl hL hi6 hc1 hs1 hl hI nxt
        · refine sw_in (tgt := 405) C 7 ek (by decide) (by decide) dL_law_33 rfl (by decide) ?_
          exact law_curve C hX hbl hL hi6 hc1 hs1 hl hI nxt
        · refine sw_in (tgt := 438) C 8 ek (by decide) (by decide) dL_law_33 rfl (by decide) ?_
          exact law_part C hX hbl hL hi6 hc1 hs1 hl hI nxt
        · refine sw_in (tgt := 481) C 9 ek (by decide) (by decide) dL_law_33 rfl (by decide) ?_
          exact law_point C hX hbl hL hi6 hc1 hs1 hl hI nxt
        · refine sw_in (tgt := 534) C 10 ek (by decide) (by decide) dL_law_33 rfl (by decide) ?_
          exact law_candidate C hX hbl hL hi6 hc1 hs1 hl hI nxt
        · refine sw_in (tgt := 587) C 11 ek (by decide) (by decide) dL_law_33 rfl (by decide) ?_
          exact law_along C hX hbl hL hi6 hc1 hs1 hl hI nxt
        · refine sw_in (tgt := 641) C 12 ek (by decide) (by decide) dL_law_33 rfl (by decide) ?_
          exact law_within C hX hbl hL hi6 hc1 hs1 hl hI nxt
        · refine sw_in (tgt := 694) C 13 ek (by decide) (by decide) dL_law_33 rfl (by decide) ?_
          exact law_count C hX hbl hL hi6 hc1 hs1 hl hI nxt
        · refine sw_in (tgt := 717) C 14 ek (by decide) (by decide) dL_law_33 rfl (by decide) ?_
          exact law_clear C hX hbl hL hi6 hc1 hs1 hl hI nxt

theorem pool_0 (D : va_G) (A : Nat → Prop) (H : Heap) : pool D A (fun _ => none) H := by
  refine ⟨[], fun _ => .inr (0, []), fun a e => ?_, fun k q h => ?_, fun i j p q h => ?_, fun k q h => ?_⟩
  · simp
  · simp [va_pl] at h
  · simp [va_pl] at h
  · simp [va_pl] at h
/-- a new object beside a world -/
theorem w2.split {D : va_G} {A : Nat → Prop} {M : wM} {H0 H H1 : Heap} {locs : List Loc} {q : Nat} {e : va_E} (hp : pool D A M H) (hq : M q = none) (hW : wd D A (va_up M q (some e)) H0 H1 locs) : w2 D A (va_up (fun _ => none) q (some e)) M H1 := by
  have hr := hW.rd
  have hin : A q := hW.inA (va_up_self _ _ _)
  refine ⟨⟨[q], fun _ => e, fun a e1 => ?_, fun k x hk => ?_, fun i j p1 q1 hi hj _ => ?_, fun k x hk => ?_⟩, ?_, fun a e1 e2 h1 h2 => ?_⟩
  · by_cases h : a = q
    · subst h
      simp [va_up]
    · simp [va_up, h]
  · obtain ⟨h1, h2⟩ := pl_mem hk
    obtain ⟨x1, x2⟩ := x
    have h1 : x1 = q := List.mem_singleton.mp h1
    have h2 : e = x2 := h2
    rw [h1, ← h2]
    exact hr q e (va_up_self _ _ _)
  · have g1 : i < 1 := (List.getElem?_eq_some_iff.mp hi).1
    have g2 : j < 1 := (List.getElem?_eq_some_iff.mp hj).1
    omega
  · obtain ⟨h1, h2⟩ := pl_mem hk
    have h1 : x.1 = q := List.mem_singleton.mp h1
    rw [h1]
    exact hin
  · obtain ⟨L, f, hM, hP, hD⟩ := hp
    refine ⟨L, f, hM, fun k x hk => ?_, hD⟩
    obtain ⟨h1, h2⟩ := pl_mem hk
    have h3 := (hM x.1 x.2).mpr ⟨h1, h2⟩
    have h4 : x.1 ≠ q := fun z => by rw [z, hq] at h3; cases h3
    exact hr x.1 x.2 ((va_up_ne _ _ h4).trans h3)
  · by_cases h : a = q
    · rw [h, hq] at h2
      cases h2
    · rw [va_up_ne _ _ h] at h1
      cases h1
theorem ka_p {s : State} {args : Array Value} {t : FieldType} (h : (Cond.arrayClass t).before args s = true) (ht : ∀ (U : State) (cA : ClassId), U.vm.findClass ("[" ++ t.toString) = some cA → va_RA U cA t) : ∃ cA, ArrOfT s cA t ∧ va_RA s cA t := by
  obtain ⟨cA, kA, comp, h1, h2, h3⟩ := Cond.arrayClass_spec h
  exact ⟨cA, fun n z => ⟨fun k h => (by cases h), kA, h2, comp, h3⟩, ht _ _ h1⟩
theorem ka_o {s : State} {args : Array Value} {Cn : String} (h : (Cond.arrayOver (.object Cn)).before args s = true) : ∃ cA, ArrOfT s cA (.object Cn) ∧ va_RA s cA (.object Cn) := by
  obtain ⟨comp, cA, kA, h1, -, h2, h3, h4⟩ := Cond.arrayOver_spec h
  exact ⟨cA, fun n z => ⟨fun k h => (by cases h), kA, h2, comp, h3⟩, kA, comp, h2, h3, h1, h4⟩
theorem ao_0 {s : State} {args : Array Value} (hts : ∀ w ∈ lw_tbl, w.before args s = true) : (Cond.arrayOver (.object RX0)).before args s = true := hts _ (List.mem_append_right _ (List.mem_append_left _ (List.mem_of_getElem? (i := 21) rfl)))
theorem ao_1 {s : State} {args : Array Value} (hts : ∀ w ∈ lw_tbl, w.before args s = true) : (Cond.arrayOver (.object RX1)).before args s = true := hts _ (List.mem_append_right _ (List.mem_append_left _ (List.mem_of_getElem? (i := 19) rfl)))
theorem ao_2 {s : State} {args : Array Value} (hts : ∀ w ∈ lw_tbl, w.before args s = true) : (Cond.arrayOver (.object RX2)).before args s = true := hts _ (List.mem_append_right _ (List.mem_append_left _ (List.mem_of_getElem? (i := 17) rfl)))
theorem ao_3 {s : State} {args : Array Value} (hts : ∀ w ∈ lw_tbl, w.before args s = true) : (Cond.arrayOver (.object RX3)).before args s = true := hts _ (List.mem_append_right _ (List.mem_append_left _ (List.mem_of_getElem? (i := 23) rfl)))
/-- the classes and the arrays' classes, out of the tables -/
theorem kx_start {s : State} {args : Array Value} (hts : ∀ w ∈ lw_tbl, w.before args s = true) : ∃ (D : va_G) (cs : Nat → ClassId), va_K D vwCl (tyl cs) s := by
  have htt : ∀ w ∈ tt, w.before args s = true := fun w hw => hts w (List.mem_filter.mp hw).1
  obtain ⟨a0, i0, k0⟩ := u_known htt inX0 (htt _ wm_182)
  obtain ⟨a1, i1, k1⟩ := u_known htt inX1 (htt _ wm_28)
  obtain ⟨a2, i2, k2⟩ := u_known htt inX2 (htt _ wm_102)
  obtain ⟨a3, i3, k3⟩ := u_known htt inX3 (htt _ wm_232)
  obtain ⟨a4, i4, k4⟩ := u_known htt inX4 (htt _ wm_1)
  obtain ⟨a5, i5, k5⟩ := u_known htt inX5 (htt _ wm_4)
  obtain ⟨b0, g0⟩ := ka_p (htt _ wm_12) (fun _ _ h => h)
  obtain ⟨b1, g1⟩ := ka_p (htt _ wm_78) (fun _ _ h => h)
  obtain ⟨b2, g2⟩ := ka_p (htt _ wm_54) (fun _ _ h => h)
  obtain ⟨b3, g3⟩ := ka_o (ao_0 hts)
  obtain ⟨b4, g4⟩ := ka_o (ao_1 hts)
  obtain ⟨b5, g5⟩ := ka_o (ao_2 hts)
  obtain ⟨b6, g6⟩ := ka_o (ao_3 hts)
  refine ⟨(fun k => if k = 0 then a0 else if k = 1 then a1 else if k = 2 then a2 else if k = 3 then a3 else if k = 4 then a4 else a5, fun k => if k = 0 then i0 else if k = 1 then i1 else if k = 2 then i2 else if k = 3 then i3 else if k = 4 then i4 else i5), fun k => if k = 0 then b0 else if k = 1 then b1 else if k = 2 then b2 else if k = 3 then b3 else if k = 4 then b4 else if k = 5 then b5 else b6, fun c q hq => ?_, fun k q hk => ?_⟩
  · match c, hq with
    | 0, hq => cases hq; exact k0
    | 1, hq => cases hq; exact k1
    | 2, hq => cases hq; exact k2
    | 3, hq => cases hq; exact k3
    | 4, hq => cases hq; exact k4
    | 5, hq => cases hq; exact k5
    | n + 6, hq => simp [vwCl] at hq
  · match k, hk with
    | 0, hk => cases hk; exact g0
    | 1, hk => cases hk; exact g1
    | 2, hk => cases hk; exact g2
    | 3, hk => cases hk; exact g3
    | 4, hk => cases hk; exact g4
    | 5, hk => cases hk; exact g5
    | 6, hk => cases hk; exact g6
    | n + 7, hk => simp [tyl] at hk
set_option maxHeartbeats 4000000 in
set_option maxRecDepth 100000 in
/-- from the entry, for every script of at most 3072 ints, the law comes to its end with true -/
theorem whole_start {p : Program} {e : Env} {s : State} {m : MethodId} {below : List Frame} {meth : Method} {c : Code} (l : Launch) {b L : Nat} {xs : Nat → Int32} (hL : L ≤ 3072) (C0 : lw_At p s m meth c b L xs) : W p l e room_1 s m #[Value.ref b] below meth c s.heap [] 0 0 (lw_Z below #[Value.ref b] s) (entryFrame m ([Value.ref b] : List Value).toArray 4) := by
  obtain ⟨hx, hb, hr, hml, hown, hts, hX, hbl, hlocks, hgv⟩ := id C0
  obtain ⟨D, cs, hK⟩ := kx_start hts
  have C : kx D cs p m c cL_law 4 s #[Value.ref b] RL := ⟨⟨hx, hb, hml, hown, fun w hw => hts w (List.mem_filter.mp hw).1⟩, hK⟩
  have hc5 : 4649 ≤ room_1.cells := Nat.le_of_ble_eq_true rfl
  have hs5 : 30251 ≤ room_1.slots := Nat.le_of_ble_eq_true rfl
  have hW : wd D (aN s) (fun _ => none) s.heap s.heap [] := ⟨fun q hq => hq, va_S.rf, pool_0 D (aN s) s.heap⟩
  have hl := lv_entry ([.ref b]) (n := 4) (Nat.le_of_ble_eq_true rfl)
  rw [lg_entry_eq]
  generalize (lg_sl ([.ref b]) ++ List.replicate (4 - (lg_sl ([.ref b])).length) Slot.unset).toArray = ls at hl ⊢
  have hl : lv_has ls 4 [(0, .ref b)] := hl
  refine w_new (ci := 4) (fs := [.null, .null, .null, .null, .null, .null, .int 0, .int 0, .int 0, .int 0, .int 0, .int 0]) C hW rfl inX4 tyX4 tyX4_ok wm_0 wm_1 wm_2 (fun j hj => by rcases (show j = 0 ∨ j = 1 ∨ j = 2 ∨ j = 3 ∨ j = 4 ∨ j = 5 ∨ j = 6 ∨ j = 7 ∨ j = 8 ∨ j = 9 ∨ j = 10 ∨ j = 11 by omega) with rfl | rfl | rfl | rfl | rfl | rfl | rfl | rfl | rfl | rfl | rfl | rfl <;> rfl) (by omega) (by omega) dL_law_0 (fun Z H nZ hW => ?_)
  have hS : va_S (aN s) s.heap H [] := hW.2.1
  have h2 := w2.split (pool_0 D (aN s) s.heap) nZ hW
  refine lv_dup hx hb dL_law_3 rfl ?_
  refine lw_V (As := []) (rest := [.ref Z]) (Pc := fun A => wrP2 D cs A _ [.ref Z]) C hS h2 st_L_9 (fun A => c_X4_init l D cs A _ Z (va_up_self _ _ _)) wr_blind2 (fun U hU hvm hWd => ⟨rfl, va_K.moved hvm C.2, by rw [hU]; exact hWd, va_AO.moved hvm (va_AO.of (ao_0 hts)), va_AO.moved hvm (va_AO.of (ao_1 hts)), va_AO.moved hvm (va_AO.of (ao_2 hts)), va_AO.moved hvm (va_AO.of (ao_3 hts))⟩) ⟨rfl, rfl, Nat.le_of_ble_eq_true rfl, Nat.le_of_ble_eq_true rfl⟩ rfl hl.1 rfl (Nat.le_of_ble_eq_true rfl) dL_law_4 ⟨by omega, by omega⟩ (fun M1 H locs hx1 h2 hS => ?_)
  obtain ⟨lab, ad, w, E, J, NA, BA, CA, PA, hC, ew⟩ := hx1
  refine lv_astore_n (lv' := [(1, .ref Z), (0, .ref b)]) hx hb dL_law_7 rfl hl (by decide) rfl (fun ls hl => ?_)
  have hW : wd D (aN s) M1 s.heap H locs := ⟨fun q hq => hq, hS, h2.1⟩
  refine w_new (ci := 5) (fs := [.int 0, .null, .int 0, .null, .null, .null, .null, .int 0, .null, .null, .null, .null, .null, .int 0, .null, .null, .null, .null, .null, .int 0, .null, .null, .null, .null, .null, .null, .null, .null, .null, .null, .null, .null, .null, .null, .null, .null]) C hW rfl inX5 tyX5 tyX5_ok wm_3 wm_4 wm_5 (fun j hj => by rcases (show j = 0 ∨ j = 1 ∨ j = 2 ∨ j = 3 ∨ j = 4 ∨ j = 5 ∨ j = 6 ∨ j = 7 ∨ j = 8 ∨ j = 9 ∨ j = 10 ∨ j = 11 ∨ j = 12 ∨ j = 13 ∨ j = 14 ∨ j = 15 ∨ j = 16 ∨ j = 17 ∨ j = 18 ∨ j = 19 ∨ j = 20 ∨ j = 21 ∨ j = 22 ∨ j = 23 ∨ j = 24 ∨ j = 25 ∨ j = 26 ∨ j = 27 ∨ j = 28 ∨ j = 29 ∨ j = 30 ∨ j = 31 ∨ j = 32 ∨ j = 33 ∨ j = 34 ∨ j = 35 by omega) with rfl | rfl | rfl | rfl | rfl | rfl | rfl | rfl | rfl | rfl | rfl | rfl | rfl | rfl | rfl | rfl | rfl | rfl | rfl | rfl | rfl | rfl | rfl | rfl | rfl | rfl | rfl | rfl | rfl | rfl | rfl | rfl | rfl | rfl | rfl | rfl <;> rfl) (by omega) (by omega) dL_law_8 (fun X H nX hW => ?_)
  have hS : va_S (aN s) s.heap H locs := hW.2.1
  have h2 := w2.split h2.1 nX hW
  refine lv_dup hx hb dL_law_11 rfl ?_
  refine lw_V (As := []) (rest := [.ref X]) (Pc := fun A => wrP D cs A _ [.ref X]) C hS h2 st_L_12 (fun A => c_X5_init l D cs A _ X (va_up_self _ _ _)) wr_blind (fun U hU hvm hWd => ⟨rfl, va_K.moved hvm C.2, by rw [hU]; exact hWd⟩) ⟨rfl, rfl, Nat.le_of_ble_eq_true rfl, Nat.le_of_ble_eq_true rfl⟩ rfl hl.1 rfl (Nat.le_of_ble_eq_true rfl) dL_law_12 ⟨by omega, by omega⟩ (fun N1 H locs hy1 h2 hS => ?_)
  obtain ⟨ad2, hR⟩ := hy1
  have h2 := h2.symm
  refine lv_astore_n (lv' := [(2, .ref X), (1, .ref Z), (0, .ref b)]) hx hb dL_law_15 rfl hl (by decide) rfl (fun ls hl => ?_)
  refine lv_iconst (v := 0) hx hb dL_law_16 (by decide) ?_
  refine lv_istore_n (lv' := [(3, .int 0), (2, .ref X), (1, .ref Z), (0, .ref b)]) hx hb dL_law_17 rfl hl (by decide) rfl (fun ls hl => ?_)
  refine W.widen (k := 41 + 9 * 0) (n := 1579 + 56 * 0) (by omega) (by omega) ?_
  refine law_loop C hX hbl hL hr hlocks hc5 hs5 514 0 0 H locs ls (by omega) rfl (Nat.zero_le _) ?_ ⟨M1, N1, lab, ad, w, E, J, 0, 0, 0, 0, NA, BA, CA, PA, ad2, fun _ => 0, fun _ _ => 0, fun _ _ => 0, 0, 0, 0, fun _ => 0, hS, h2, hC, hR, ?_⟩
  · exact lv_sub hl [0, 3, 2, 1] rfl
  · exact cp_zero w (fun _ => 0) E J (fun _ _ => 0) (fun k g1 g2 => by rw [ew]; exact xZero_0 _ k g1 g2) ⟨rfl, rfl, rfl, rfl, rfl⟩

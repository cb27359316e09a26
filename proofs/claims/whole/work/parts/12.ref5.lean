def pxs (F : Nat → Nat → Int32) (k i : Nat) : Int64 := (rPx F k (nI i)).toInt64
def pys (F : Nat → Nat → Int32) (k : Nat) (q : Int32) (i : Nat) : Int64 := (rPy F k q (nI i)).toInt64
def q4 (a b c d : Int64) : Nat → Int64 := fun i => if i = 0 then a else if i = 1 then b else if i = 2 then c else d
/-- the four rows of points -/
def gOf (ax ay bx by_ : Nat → Int64) : Nat → Nat → Int64 := fun k => if k = 32 then ax else if k = 33 then ay else if k = 34 then bx else by_
def askI (F : Nat → Nat → Int32) (k : Nat) (q : Int32) (n : Nat) (G : Nat → Nat → Int64) : Prop := ∀ i, i < n → G 32 i = pxs F k i ∧ G 33 i = pys F k q i
def othI (F : Nat → Nat → Int32) (j n : Nat) (G : Nat → Nat → Int64) : Prop := ∀ i, i < n → G 34 i = pxs F j i ∧ G 35 i = pys F j (F 30 j) i
def cnt (f : Nat → Bool) : Nat → Nat
  | 0 => 0
  | n + 1 => cnt f n + (if f n = true then 1 else 0)
theorem cnt_le (f : Nat → Bool) (n : Nat) : cnt f n ≤ n := by
  induction n with
  | zero => exact Nat.le_refl _
  | succ n ih => unfold cnt; split <;> omega
theorem sG_34 (G : Nat → Nat → Int64) (i : Nat) (x : Int64) (j k : Nat) : sG G 34 i x j k = if j = 34 ∧ k = i then x else G j k := by
  unfold sG va_up vp_updL
  by_cases h : j = 34
  · subst h; by_cases q : k = i <;> simp [q]
  · simp [h]
theorem sG_35 (G : Nat → Nat → Int64) (i : Nat) (x : Int64) (j k : Nat) : sG G 35 i x j k = if j = 35 ∧ k = i then x else G j k := by
  unfold sG va_up vp_updL
  by_cases h : j = 35
  · subst h; by_cases q : k = i <;> simp [q]
  · simp [h]
theorem sG_32 (G : Nat → Nat → Int64) (i : Nat) (x : Int64) (j k : Nat) : sG G 32 i x j k = if j = 32 ∧ k = i then x else G j k := by
  unfold sG va_up vp_updL
  by_cases h : j = 32
  · subst h; by_cases q : k = i <;> simp [q]
  · simp [h]
theorem sG_33 (G : Nat → Nat → Int64) (i : Nat) (x : Int64) (j k : Nat) : sG G 33 i x j k = if j = 33 ∧ k = i then x else G j k := by
  unfold sG va_up vp_updL
  by_cases h : j = 33
  · subst h; by_cases q : k = i <;> simp [q]
  · simp [h]
theorem askI_s {F : Nat → Nat → Int32} {k : Nat} {q : Int32} {n : Nat} {G : Nat → Nat → Int64} (h : askI F k q n G) {r s : Int32} (h1 : r = rPx F k (nI n)) (h2 : s = rPy F k q (nI n)) : askI F k q (n + 1) (sG (sG G 32 n r.toInt64) 33 n s.toInt64) := by
  intro i hi
  subst h1 h2
  rw [sG_33, sG_33, sG_32, sG_32]
  by_cases e : i = n
  · subst e; simp [pxs, pys]
  · have := h i (by omega)
    simp [e, this]
theorem askI_o {F : Nat → Nat → Int32} {k : Nat} {q : Int32} {n : Nat} {G : Nat → Nat → Int64} (h : askI F k q n G) (i : Nat) (x y : Int64) : askI F k q n (sG (sG G 34 i x) 35 i y) := by
  intro j hj
  rw [sG_35, sG_35, sG_34, sG_34]
  simpa using h j hj
theorem othI_s {F : Nat → Nat → Int32} {j n : Nat} {G : Nat → Nat → Int64} (h : othI F j n G) {r s : Int32} (h1 : r = rPx F j (nI n)) (h2 : s = rPy F j (F 30 j) (nI n)) : othI F j (n + 1) (sG (sG G 34 n r.toInt64) 35 n s.toInt64) := by
  intro i hi
  subst h1 h2
  rw [sG_35, sG_35, sG_34, sG_34]
  by_cases e : i = n
  · subst e; simp [pxs, pys]
  · have := h i (by omega)
    simp [e, this]
theorem rWt_congr {x y x' y' : Nat → Int64} (h : ∀ i, i < 4 → x i = x' i ∧ y i = y' i) (p q : Int64) (n : Nat) : rWt x y p q n = rWt x' y' p q n := by
  induction n with
  | zero => rfl
  | succ n ih =>
    unfold rWt
    rw [ih]
    obtain ⟨a, b, c⟩ := w_lt n
    unfold rWs
    rw [(h _ a).1, (h _ a).2, (h _ b).1, (h _ b).2, (h _ c).1, (h _ c).2]
theorem rMeet_congr {G G' : Nat → Nat → Int64} (h : ∀ i, i < 4 → G 32 i = G' 32 i ∧ G 33 i = G' 33 i ∧ G 34 i = G' 34 i ∧ G 35 i = G' 35 i) : rMeet G = rMeet G' := by
  have hw1 : rWt (G 32) (G 33) (G 34 0) (G 35 0) 4 = rWt (G' 32) (G' 33) (G' 34 0) (G' 35 0) 4 := by
    rw [(h 0 (by omega)).2.2.1, (h 0 (by omega)).2.2.2]
    exact rWt_congr (fun i hi => ⟨(h i hi).1, (h i hi).2.1⟩) _ _ _
  have hw2 : rWt (G 34) (G 35) (G 32 0) (G 33 0) 4 = rWt (G' 34) (G' 35) (G' 32 0) (G' 33 0) 4 := by
    rw [(h 0 (by omega)).1, (h 0 (by omega)).2.1]
    exact rWt_congr (fun i hi => ⟨(h i hi).2.2.1, (h i hi).2.2.2⟩) _ _ _
  have hc : ∀ i j k n, i < 4 → j < 4 → k < 4 → n < 4 → rCr G i j k n = rCr G' i j k n := by
    intro i j k n hi hj hk hn
    unfold rCr
    rw [(h i hi).1, (h i hi).2.1, (h j hj).1, (h j hj).2.1, (h k hk).2.2.1, (h k hk).2.2.2, (h n hn).2.2.1, (h n hn).2.2.2]
  rw [Bool.eq_iff_iff, rMeet_iff, rMeet_iff]
  unfold oW oI oJ oK oL
  rw [hw1, hw2]
  constructor
  · rintro (h | ⟨i, hi, j, hij, hj, k, hk, n, hkn, hn, hcr⟩)
    · exact Or.inl h
    · exact Or.inr ⟨i, hi, j, hij, hj, k, hk, n, hkn, hn, by rw [← hc i j k n hi hj hk hn]; exact hcr⟩
  · rintro (h | ⟨i, hi, j, hij, hj, k, hk, n, hkn, hn, hcr⟩)
    · exact Or.inl h
    · exact Or.inr ⟨i, hi, j, hij, hj, k, hk, n, hkn, hn, by rw [hc i j k n hi hj hk hn]; exact hcr⟩
theorem lt4 {i : Nat} (h : i < 4) : i = 0 ∨ i = 1 ∨ i = 2 ∨ i = 3 := by omega
theorem oth4 {F : Nat → Nat → Int32} {k : Nat} {q : Int32} {G : Nat → Nat → Int64} (h : askI F k q 4 G) (x0 y0 x1 y1 x2 y2 x3 y3 : Int64) : rMeet (sG (sG (sG (sG (sG (sG (sG (sG G 34 0 x0) 35 0 y0) 34 1 x1) 35 1 y1) 34 2 x2) 35 2 y2) 34 3 x3) 35 3 y3) = rMeet (gOf (pxs F k) (pys F k q) (q4 x0 x1 x2 x3) (q4 y0 y1 y2 y3)) := by
  refine rMeet_congr (fun i hi => ?_)
  simp only [sG_34, sG_35]
  have := h i hi
  rcases lt4 hi with rfl | rfl | rfl | rfl <;> simp [gOf, q4, this]
theorem othM {F : Nat → Nat → Int32} {k j : Nat} {q : Int32} {G : Nat → Nat → Int64} (h : askI F k q 4 G) (h2 : othI F j 4 G) : rMeet G = rMeet (gOf (pxs F k) (pys F k q) (pxs F j) (pys F j (F 30 j))) := by
  refine rMeet_congr (fun i hi => ?_)
  have a := h i hi
  have b := h2 i hi
  simp [gOf, a, b]
def cM (F : Nat → Nat → Int32) (k : Nat) (q : Int32) (m : Nat) : Bool := decide (F 8 m = F 25 k) && rMeet (gOf (pxs F k) (pys F k q) (q4 (F 9 m).toInt64 (F 9 m + F 11 m).toInt64 (F 9 m + F 11 m).toInt64 (F 9 m).toInt64) (q4 (F 10 m).toInt64 (F 10 m).toInt64 (F 10 m + F 12 m).toInt64 (F 10 m + F 12 m).toInt64))
def cW (F : Nat → Nat → Int32) (k : Nat) (q : Int32) (m : Nat) : Bool := decide (F 14 m = F 25 k) && rMeet (gOf (pxs F k) (pys F k q) (q4 (F 15 m).toInt64 (F 16 m).toInt64 (F 16 m).toInt64 (F 15 m).toInt64) (q4 (F 17 m).toInt64 (F 17 m - F 18 m).toInt64 (F 17 m + F 18 m).toInt64 (F 17 m).toInt64))
def cH (F : Nat → Nat → Int32) (k : Nat) (q : Int32) (j : Nat) : Bool := (!decide (F 24 (j / 2) ≤ nI (j % 2)) && rIn F j k) && rMeet (gOf (pxs F k) (pys F k q) (pxs F j) (pys F j (F 30 j)))
def rBars (F : Nat → Nat → Int32) (nm nw k : Nat) (q : Int32) : Nat := cnt (cM F k q) nm + cnt (cW F k q) nw
def rHulls (F : Nat → Nat → Int32) (nc k : Nat) (q : Int32) : Nat := cnt (cH F k q) (2 * nc)
set_option maxHeartbeats 4000000 in
set_option maxRecDepth 100000 in
theorem c_X5_ask (l : Launch) (D : va_G) (cs : Nat → ClassId) (A : Nat → Prop) (M : wM) (X : Nat) (ad : Nat → Nat) (v : Nat → Int32) (F : Nat → Nat → Int32) (G : Nat → Nat → Int64) (hS : RS cs M X ad v F G) (k : Nat) (hk : k < 80) (q : Int32) : Met l yX5_ask (mw yX5_ask cX5_ask 4 none) { frames := 2, cells := 0, slots := 0, locals := 50 } (wrP D cs A M [.ref X, .int (nI k), .int q]) (va_Qv (fun M' => ∃ G', RS cs M' X ad v F G' ∧ askI F k q 4 G') (wrB D A) A) 0 0 A := by
  refine wr_met rfl (Nat.le_of_ble_eq_true rfl) ?_
  intro p e s m below meth c ls C hW hr hlk hini hl
  have C : kx D cs p m c cX5_ask 4 s _ RX5 := C
  have hx := C.1.1
  have hb := C.1.2.1
  have hl : lv_has ls 4 [(0, .ref X), (1, .int (nI k)), (2, .int q)] := hl
  refine lv_iconst (v := 0) hx hb dX5_ask_0 (by decide) ?_
  refine lv_istore_n (lv' := [(3, .int 0), (0, .ref X), (1, .int (nI k)), (2, .int q)]) hx hb dX5_ask_1 rfl hl (by decide) rfl (fun ls hl => ?_)
  refine W.loopW (σ := Nat × (Nat → Nat → Int64) × Heap × List Loc × wM × Array Slot) (fun ⟨i, G1, H, locs, M, ls⟩ => F0 m 2 ls []) (fun ⟨i, G1, H, locs, M, ls⟩ => H) (fun ⟨i, G1, H, locs, M, ls⟩ => locs) (fun ⟨i, G1, H, locs, M, ls⟩ => (i ≤ 4) ∧ (RS cs M X ad v F G1) ∧ (askI F k q i G1) ∧ wd D A M s.heap H locs ∧ lv_has ls 4 [(3, .int (nI i)), (0, .ref X), (1, .int (nI k)), (2, .int q)]) (fun ⟨i, G1, H, locs, M, ls⟩ => 4 - i) ?_ (0, G, _, _, _, _) ⟨by omega, hS, fun i h => absurd h (by omega), hW, lv_sub hl [0, 1, 2, 3] rfl⟩ rfl rfl rfl
  intro ⟨i, G1, H, locs, M, ls⟩ ⟨hi, hS, hA, hW, hl⟩ ih_2
  show W _ _ _ _ _ _ _ _ _ _ H locs _ _ _ (F0 m 2 ls [])
  have hl : lv_has ls 4 [(3, .int (nI i)), (0, .ref X), (1, .int (nI k)), (2, .int q)] := hl
  refine lv_iload_n hx hb dX5_ask_2 rfl (lv_at hl 0 rfl) ?_
  refine lv_iconst (v := 4) hx hb dX5_ask_3 (by decide) ?_
  refine lv_icmp_ge (tgt := 40) hx hb dX5_ask_4 (by decide) (fun c_4 => ?_) (fun c_4 => ?_)
  · have c_4 := cle_t (a := 4) (b := i) c_4 (by omega) (by omega)
    exact wr_vret C hW hr hlk (⟨_, hS, by rw [show i = 4 by omega] at hA; exact hA⟩) dX5_ask_40
  · have c_4 := cle_f (a := 4) (b := i) c_4 (by omega) (by omega)
    refine lv_aload_n hx hb dX5_ask_7 rfl (lv_at hl 1 rfl) ?_
    refine gf_X5_92 C hW.rd hS.1 rfl dX5_ask_8 ?_
    refine lv_iload_n hx hb dX5_ask_11 rfl (lv_at hl 0 rfl) ?_
    refine lv_aload_n hx hb dX5_ask_12 rfl (lv_at hl 1 rfl) ?_
    refine lv_iload_n hx hb dX5_ask_13 rfl (lv_at hl 2 rfl) ?_
    refine lv_iload_n hx hb dX5_ask_14 rfl (lv_at hl 0 rfl) ?_
    refine ro_goI (ro_V (As := [.int (nI k), .int (nI i)]) (rest := [.int (nI i), .ref (ad 32)]) C hW.rd st_X5_191 (c_X5_px l D cs _ X ad v F G1 hS k (by omega) (nI i)) hS.1 rfl rfl ⟨rfl, rfl, Nat.le_of_ble_eq_true rfl, Nat.le_of_ble_eq_true rfl⟩ rfl hl.1 rfl (Nat.le_of_ble_eq_true rfl) dX5_ask_15 ⟨Nat.le_of_ble_eq_true rfl, Nat.le_of_ble_eq_true rfl⟩) (fun r_15 h_15 => ?_)
    refine lv_i2l hx hb dX5_ask_18 rfl ?_
    refine w_lastN (k := i) C hW (RS.j hS 32 4 rfl rfl) (by omega) (by decide) rfl dX5_ask_19 (fun H locs hW => ?_)
    obtain ⟨M, G_1, eG_1, hS, hW⟩ : ∃ (M : wM) (w0 : Nat → Nat → Int64), w0 = sG G1 32 i r_15.toInt64 ∧ RS cs M X ad v F w0 ∧ wd D A M s.heap H locs := ⟨_, _, rfl, RS.setJ hS 32 rfl i r_15.toInt64, hW⟩
    refine lv_aload_n hx hb dX5_ask_20 rfl (lv_at hl 1 rfl) ?_
    refine gf_X5_96 C hW.rd hS.1 rfl dX5_ask_21 ?_
    refine lv_iload_n hx hb dX5_ask_24 rfl (lv_at hl 0 rfl) ?_
    refine lv_aload_n hx hb dX5_ask_25 rfl (lv_at hl 1 rfl) ?_
    refine lv_iload_n hx hb dX5_ask_26 rfl (lv_at hl 2 rfl) ?_
    refine lv_iload_n hx hb dX5_ask_27 rfl (lv_at hl 3 rfl) ?_
    refine lv_iload_n hx hb dX5_ask_28 rfl (lv_at hl 0 rfl) ?_
    refine ro_goI (ro_V (As := [.int (nI k), .int q, .int (nI i)]) (rest := [.int (nI i), .ref (ad 33)]) C hW.rd st_X5_194 (c_X5_py l D cs _ X ad v F G_1 hS k (by omega) q (nI i)) hS.1 rfl rfl ⟨rfl, rfl, Nat.le_of_ble_eq_true rfl, Nat.le_of_ble_eq_true rfl⟩ rfl hl.1 rfl (Nat.le_of_ble_eq_true rfl) dX5_ask_29 ⟨Nat.le_of_ble_eq_true rfl, Nat.le_of_ble_eq_true rfl⟩) (fun r_29 h_29 => ?_)
    refine lv_i2l hx hb dX5_ask_32 rfl ?_
    refine w_lastN (k := i) C hW (RS.j hS 33 4 rfl rfl) (by omega) (by decide) rfl dX5_ask_33 (fun H locs hW => ?_)
    obtain ⟨M, G_2, eG_2, hS, hW⟩ : ∃ (M : wM) (w0 : Nat → Nat → Int64), w0 = sG G_1 33 i r_29.toInt64 ∧ RS cs M X ad v F w0 ∧ wd D A M s.heap H locs := ⟨_, _, rfl, RS.setJ hS 33 rfl i r_29.toInt64, hW⟩
    refine lv_iinc (v := nI (i + 1)) (lv' := [(3, .int (nI (i + 1))), (0, .ref X), (1, .int (nI k)), (2, .int q)]) hx hb dX5_ask_34 hl (k := 0) rfl (by exact tn_add rfl rfl) (by decide) rfl (fun ls hl => ?_)
    refine lv_goto (tgt := 2) hx hb dX5_ask_37 (by decide) ?_
    exact ih_2 ((i + 1), G_2, _, _, _, _) ⟨by omega, hS, by subst eG_2 eG_1; exact askI_s hA h_15 h_29, hW, lv_sub hl [0, 1, 2, 3] rfl⟩ (by show 4 - (i + 1) < 4 - i; omega)

set_option maxHeartbeats 4000000 in
set_option maxRecDepth 100000 in
theorem c_X5_bars (l : Launch) (D : va_G) (cs : Nat → ClassId) (A : Nat → Prop) (M : wM) (X : Nat) (ad : Nat → Nat) (v : Nat → Int32) (F : Nat → Nat → Int32) (G : Nat → Nat → Int64) (hS : RS cs M X ad v F G) (nm nw : Nat) (hnm : v 7 = nI nm) (hm40 : nm ≤ 40) (hnw : v 13 = nI nw) (hw12 : nw ≤ 12) (k : Nat) (hk : k < 80) (q : Int32) : Met l yX5_bars (mw yX5_bars cX5_bars 5 (some .int)) { frames := 4, cells := 0, slots := 0, locals := 113 } (wrP D cs A M [.ref X, .int (nI k), .int q]) (va_Qi (fun r M' => ∃ G', RS cs M' X ad v F G' ∧ r = nI (rBars F nm nw k q)) (wrB D A) A) 0 0 A := by
  refine wr_met rfl (Nat.le_of_ble_eq_true rfl) ?_
  intro p e s m below meth c ls C hW hr hlk hini hl
  have C : kx D cs p m c cX5_bars 5 s _ RX5 := C
  have hx := C.1.1
  have hb := C.1.2.1
  have hl : lv_has ls 5 [(0, .ref X), (1, .int (nI k)), (2, .int q)] := hl
  refine lv_aload_n hx hb dX5_bars_0 rfl (lv_at hl 0 rfl) ?_
  refine lv_iload_n hx hb dX5_bars_1 rfl (lv_at hl 1 rfl) ?_
  refine lv_iload_n hx hb dX5_bars_2 rfl (lv_at hl 2 rfl) ?_
  refine wr_goV hW (wr_V (As := [.int (nI k), .int q]) (rest := []) C hW st_X5_198 (c_X5_ask l D cs A _ X ad v F G hS k (by omega) q) hS.1 rfl rfl ⟨rfl, rfl, Nat.le_of_ble_eq_true rfl, Nat.le_of_ble_eq_true rfl⟩ rfl hl.1 rfl (Nat.le_of_ble_eq_true rfl) dX5_bars_3 ⟨Nat.le_of_ble_eq_true rfl, Nat.le_of_ble_eq_true rfl⟩) (fun M_3 H locs h_3 hW => ?_)
  obtain ⟨G_1, hS, hA⟩ := h_3
  refine lv_iconst (v := 0) hx hb dX5_bars_6 (by decide) ?_
  refine lv_istore_n (lv' := [(3, .int 0), (0, .ref X), (1, .int (nI k)), (2, .int q)]) hx hb dX5_bars_7 rfl hl (by decide) rfl (fun ls hl => ?_)
  refine lv_iconst (v := 0) hx hb dX5_bars_8 (by decide) ?_
  refine lv_istore (lv' := [(4, .int 0), (3, .int 0), (0, .ref X), (1, .int (nI k)), (2, .int q)]) hx hb dX5_bars_9 hl (by decide) rfl (fun ls hl => ?_)
  refine W.loopW (σ := Nat × Nat × (Nat → Nat → Int64) × Heap × List Loc × wM × Array Slot) (fun ⟨m0, n, G1, H, locs, M, ls⟩ => F0 m 11 ls []) (fun ⟨m0, n, G1, H, locs, M, ls⟩ => H) (fun ⟨m0, n, G1, H, locs, M, ls⟩ => locs) (fun ⟨m0, n, G1, H, locs, M, ls⟩ => (m0 ≤ nm) ∧ (n = cnt (cM F k q) m0) ∧ (RS cs M X ad v F G1) ∧ (askI F k q 4 G1) ∧ wd D A M s.heap H locs ∧ lv_has ls 5 [(4, .int (nI m0)), (3, .int (nI n)), (0, .ref X), (1, .int (nI k)), (2, .int q)]) (fun ⟨m0, n, G1, H, locs, M, ls⟩ => nm - m0) ?_ (0, 0, G_1, _, _, _, _) ⟨by omega, rfl, hS, hA, hW, lv_sub hl [0, 1, 2, 3, 4] rfl⟩ rfl rfl rfl
  intro ⟨m0, n, G1, H, locs, M, ls⟩ ⟨hm, hn, hS, hA, hW, hl⟩ ih_11
  show W _ _ _ _ _ _ _ _ _ _ H locs _ _ _ (F0 m 11 ls [])
  have hl : lv_has ls 5 [(4, .int (nI m0)), (3, .int (nI n)), (0, .ref X), (1, .int (nI k)), (2, .int q)] := hl
  refine lv_iload hx hb dX5_bars_11 (lv_at hl 0 rfl) ?_
  refine lv_aload_n hx hb dX5_bars_13 rfl (lv_at hl 2 rfl) ?_
  refine gf_X5_120 C hW.rd hS.1 rfl dX5_bars_14 ?_
  refine top_eq (y := nI nm) hnm ?_
  refine lv_icmp_ge (tgt := 173) hx hb dX5_bars_17 (by decide) (fun c_17 => ?_) (fun c_17 => ?_)
  · have c_17 := cle_t (a := nm) (b := m0) c_17 (by omega) (by omega)
    refine lv_iconst (v := 0) hx hb dX5_bars_173 (by decide) ?_
    refine lv_istore (lv' := [(4, .int 0), (3, .int (nI n)), (0, .ref X), (1, .int (nI k)), (2, .int q)]) hx hb dX5_bars_174 hl (by decide) rfl (fun ls hl => ?_)
    refine W.loopW (σ := Nat × Nat × (Nat → Nat → Int64) × Heap × List Loc × wM × Array Slot) (fun ⟨m1, n, G1, H, locs, M, ls⟩ => F0 m 176 ls []) (fun ⟨m1, n, G1, H, locs, M, ls⟩ => H) (fun ⟨m1, n, G1, H, locs, M, ls⟩ => locs) (fun ⟨m1, n, G1, H, locs, M, ls⟩ => (m1 ≤ nw) ∧ (n = cnt (cM F k q) nm + cnt (cW F k q) m1) ∧ (RS cs M X ad v F G1) ∧ (askI F k q 4 G1) ∧ wd D A M s.heap H locs ∧ lv_has ls 5 [(4, .int (nI m1)), (3, .int (nI n)), (0, .ref X), (1, .int (nI k)), (2, .int q)]) (fun ⟨m1, n, G1, H, locs, M, ls⟩ => nw - m1) ?_ (0, n, G1, _, _, _, _) ⟨by omega, by rw [hn, show m0 = nm by omega]; rfl, hS, hA, hW, lv_sub hl [0, 1, 2, 3, 4] rfl⟩ rfl rfl rfl
    intro ⟨m1, n, G1, H, locs, M, ls⟩ ⟨hm1, hn, hS, hA, hW, hl⟩ ih_176
    show W _ _ _ _ _ _ _ _ _ _ H locs _ _ _ (F0 m 176 ls [])
    have hl : lv_has ls 5 [(4, .int (nI m1)), (3, .int (nI n)), (0, .ref X), (1, .int (nI k)), (2, .int q)] := hl
    refine lv_iload hx hb dX5_bars_176 (lv_at hl 0 rfl) ?_
    refine lv_aload_n hx hb dX5_bars_178 rfl (lv_at hl 2 rfl) ?_
    refine gf_X5_123 C hW.rd hS.1 rfl dX5_bars_179 ?_
    refine top_eq (y := nI nw) hnw ?_
    refine lv_icmp_ge (tgt := 322) hx hb dX5_bars_182 (by decide) (fun c_182 => ?_) (fun c_182 => ?_)
    · have c_182 := cle_t (a := nw) (b := m1) c_182 (by omega) (by omega)
      refine lv_iload_n hx hb dX5_bars_322 rfl (lv_at hl 1 rfl) ?_
      exact wr_iret C hW hr hlk (⟨_, hS, by rw [hn, show m1 = nw by omega]; rfl⟩) dX5_bars_323
    · have c_182 := cle_f (a := nw) (b := m1) c_182 (by omega) (by omega)
      refine lv_aload_n hx hb dX5_bars_185 rfl (lv_at hl 2 rfl) ?_
      refine gf_X5_41 C hW.rd hS.1 rfl dX5_bars_186 ?_
      refine lv_iload hx hb dX5_bars_189 (lv_at hl 0 rfl) ?_
      refine r_ialdN (k := m1) C hW.rd (RS.i hS 14 12 rfl rfl) (by omega) (by decide) rfl dX5_bars_191 ?_
      refine lv_aload_n hx hb dX5_bars_192 rfl (lv_at hl 2 rfl) ?_
      refine gf_X5_71 C hW.rd hS.1 rfl dX5_bars_193 ?_
      refine lv_iload_n hx hb dX5_bars_196 rfl (lv_at hl 3 rfl) ?_
      refine r_ialdN (k := k) C hW.rd (RS.i hS 25 80 rfl rfl) (by omega) (by decide) rfl dX5_bars_197 ?_
      refine lv_icmp_ne (tgt := 316) hx hb dX5_bars_198 (by decide) (fun c_198 => ?_) (fun c_198 => ?_)
      · refine lv_iinc (v := nI (m1 + 1)) (lv' := [(4, .int (nI (m1 + 1))), (3, .int (nI n)), (0, .ref X), (1, .int (nI k)), (2, .int q)]) hx hb dX5_bars_316 hl (k := 0) rfl (by exact tn_add rfl rfl) (by decide) rfl (fun ls hl => ?_)
        refine lv_goto (tgt := 176) hx hb dX5_bars_319 (by decide) ?_
        exact ih_176 ((m1 + 1), n, G1, _, _, _, _) ⟨by omega, by rw [hn]; simp [cnt, Nat.add_assoc, cW, c_198], hS, hA, hW, lv_sub hl [0, 1, 2, 3, 4] rfl⟩ (by show nw - (m1 + 1) < nw - m1; omega)
      · refine lv_aload_n hx hb dX5_bars_201 rfl (lv_at hl 2 rfl) ?_
        refine lv_iconst (v := 0) hx hb dX5_bars_202 (by decide) ?_
        refine lv_aload_n hx hb dX5_bars_203 rfl (lv_at hl 2 rfl) ?_
        refine gf_X5_44 C hW.rd hS.1 rfl dX5_bars_204 ?_
        refine lv_iload hx hb dX5_bars_207 (lv_at hl 0 rfl) ?_
        refine r_ialdN (k := m1) C hW.rd (RS.i hS 15 12 rfl rfl) (by omega) (by decide) rfl dX5_bars_209 ?_
        refine lv_i2l hx hb dX5_bars_210 rfl ?_
        refine lv_aload_n hx hb dX5_bars_211 rfl (lv_at hl 2 rfl) ?_
        refine gf_X5_50 C hW.rd hS.1 rfl dX5_bars_212 ?_
        refine lv_iload hx hb dX5_bars_215 (lv_at hl 0 rfl) ?_
        refine r_ialdN (k := m1) C hW.rd (RS.i hS 17 12 rfl rfl) (by omega) (by decide) rfl dX5_bars_217 ?_
        refine lv_i2l hx hb dX5_bars_218 rfl ?_
        refine wr_goV hW (wr_V (As := [.int 0, .long ((F 15 m1).toInt64), .long ((F 17 m1).toInt64)]) (rest := []) C hW st_X5_201 (c_X5_other l D cs A _ X ad v F G1 hS 0 (by omega) ((F 15 m1).toInt64) ((F 17 m1).toInt64)) hS.1 rfl rfl ⟨rfl, rfl, Nat.le_of_ble_eq_true rfl, Nat.le_of_ble_eq_true rfl⟩ rfl hl.1 rfl (Nat.le_of_ble_eq_true rfl) dX5_bars_219 ⟨Nat.le_of_ble_eq_true rfl, Nat.le_of_ble_eq_true rfl⟩) (fun M_219 H locs h_219 hW => ?_)
        obtain ⟨G_2, hS, eG_2⟩ := h_219
        refine lv_aload_n hx hb dX5_bars_222 rfl (lv_at hl 2 rfl) ?_
        refine lv_iconst (v := 1) hx hb dX5_bars_223 (by decide) ?_
        refine lv_aload_n hx hb dX5_bars_224 rfl (lv_at hl 2 rfl) ?_
        refine gf_X5_47 C hW.rd hS.1 rfl dX5_bars_225 ?_
        refine lv_iload hx hb dX5_bars_228 (lv_at hl 0 rfl) ?_
        refine r_ialdN (k := m1) C hW.rd (RS.i hS 16 12 rfl rfl) (by omega) (by decide) rfl dX5_bars_230 ?_
        refine lv_i2l hx hb dX5_bars_231 rfl ?_
        refine lv_aload_n hx hb dX5_bars_232 rfl (lv_at hl 2 rfl) ?_
        refine gf_X5_50 C hW.rd hS.1 rfl dX5_bars_233 ?_
        refine lv_iload hx hb dX5_bars_236 (lv_at hl 0 rfl) ?_
        refine r_ialdN (k := m1) C hW.rd (RS.i hS 17 12 rfl rfl) (by omega) (by decide) rfl dX5_bars_238 ?_
        refine lv_aload_n hx hb dX5_bars_239 rfl (lv_at hl 2 rfl) ?_
        refine gf_X5_53 C hW.rd hS.1 rfl dX5_bars_240 ?_
        refine lv_iload hx hb dX5_bars_243 (lv_at hl 0 rfl) ?_
        refine r_ialdN (k := m1) C hW.rd (RS.i hS 18 12 rfl rfl) (by omega) (by decide) rfl dX5_bars_245 ?_
        refine lv_isub hx hb dX5_bars_246 ?_
        refine lv_i2l hx hb dX5_bars_247 rfl ?_
        refine wr_goV hW (wr_V (As := [.int 1, .long ((F 16 m1).toInt64), .long (((F 17 m1) - (F 18 m1)).toInt64)]) (rest := []) C hW st_X5_201 (c_X5_other l D cs A _ X ad v F G_2 hS 1 (by omega) ((F 16 m1).toInt64) (((F 17 m1) - (F 18 m1)).toInt64)) hS.1 rfl rfl ⟨rfl, rfl, Nat.le_of_ble_eq_true rfl, Nat.le_of_ble_eq_true rfl⟩ rfl hl.1 rfl (Nat.le_of_ble_eq_true rfl) dX5_bars_248 ⟨Nat.le_of_ble_eq_true rfl, Nat.le_of_ble_eq_true rfl⟩) (fun M_248 H locs h_248 hW => ?_)
        obtain ⟨G_3, hS, eG_3⟩ := h_248
        refine lv_aload_n hx hb dX5_bars_251 rfl (lv_at hl 2 rfl) ?_
        refine lv_iconst (v := 2) hx hb dX5_bars_252 (by decide) ?_
        refine lv_aload_n hx hb dX5_bars_253 rfl (lv_at hl 2 rfl) ?_
        refine gf_X5_47 C hW.rd hS.1 rfl dX5_bars_254 ?_
        refine lv_iload hx hb dX5_bars_257 (lv_at hl 0 rfl) ?_
        refine r_ialdN (k := m1) C hW.rd (RS.i hS 16 12 rfl rfl) (by omega) (by decide) rfl dX5_bars_259 ?_
        refine lv_i2l hx hb dX5_bars_260 rfl ?_
        refine lv_aload_n hx hb dX5_bars_261 rfl (lv_at hl 2 rfl) ?_
        refine gf_X5_50 C hW.rd hS.1 rfl dX5_bars_262 ?_
        refine lv_iload hx hb dX5_bars_265 (lv_at hl 0 rfl) ?_
        refine r_ialdN (k := m1) C hW.rd (RS.i hS 17 12 rfl rfl) (by omega) (by decide) rfl dX5_bars_267 ?_
        refine lv_aload_n hx hb dX5_bars_268 rfl (lv_at hl 2 rfl) ?_
        refine gf_X5_53 C hW.rd hS.1 rfl dX5_bars_269 ?_
        refine lv_iload hx hb dX5_bars_272 (lv_at hl 0 rfl) ?_
        refine r_ialdN (k := m1) C hW.rd (RS.i hS 18 12 rfl rfl) (by omega) (by decide) rfl dX5_bars_274 ?_
        refine lv_iadd hx hb dX5_bars_275 ?_
        refine lv_i2l hx hb dX5_bars_276 rfl ?_
        refine wr_goV hW (wr_V (As := [.int 2, .long ((F 16 m1).toInt64), .long (((F 17 m1) + (F 18 m1)).toInt64)]) (rest := []) C hW st_X5_201 (c_X5_other l D cs A _ X ad v F G_3 hS 2 (by omega) ((F 16 m1).toInt64) (((F 17 m1) + (F 18 m1)).toInt64)) hS.1 rfl rfl ⟨rfl, rfl, Nat.le_of_ble_eq_true rfl, Nat.le_of_ble_eq_true rfl⟩ rfl hl.1 rfl (Nat.le_of_ble_eq_true rfl) dX5_bars_277 ⟨Nat.le_of_ble_eq_true rfl, Nat.le_of_ble_eq_true rfl⟩) (fun M_277 H locs h_277 hW => ?_)
        obtain ⟨G_4, hS, eG_4⟩ := h_277
        refine lv_aload_n hx hb dX5_bars_280 rfl (lv_at hl 2 rfl) ?_
        refine lv_iconst (v := 3) hx hb dX5_bars_281 (by decide) ?_
        refine lv_aload_n hx hb dX5_bars_282 rfl (lv_at hl 2 rfl) ?_
        refine gf_X5_44 C hW.rd hS.1 rfl dX5_bars_283 ?_
        refine lv_iload hx hb dX5_bars_286 (lv_at hl 0 rfl) ?_
        refine r_ialdN (k := m1) C hW.rd (RS.i hS 15 12 rfl rfl) (by omega) (by decide) rfl dX5_bars_288 ?_
        refine lv_i2l hx hb dX5_bars_289 rfl ?_
        refine lv_aload_n hx hb dX5_bars_290 rfl (lv_at hl 2 rfl) ?_
        refine gf_X5_50 C hW.rd hS.1 rfl dX5_bars_291 ?_
        refine lv_iload hx hb dX5_bars_294 (lv_at hl 0 rfl) ?_
        refine r_ialdN (k := m1) C hW.rd (RS.i hS 17 12 rfl rfl) (by omega) (by decide) rfl dX5_bars_296 ?_
        refine lv_i2l hx hb dX5_bars_297 rfl ?_
        refine wr_goV hW (wr_V (As := [.int 3, .long ((F 15 m1).toInt64), .long ((F 17 m1).toInt64)]) (rest := []) C hW st_X5_201 (c_X5_other l D cs A _ X ad v F G_4 hS 3 (by omega) ((F 15 m1).toInt64) ((F 17 m1).toInt64)) hS.1 rfl rfl ⟨rfl, rfl, Nat.le_of_ble_eq_true rfl, Nat.le_of_ble_eq_true rfl⟩ rfl hl.1 rfl (Nat.le_of_ble_eq_true rfl) dX5_bars_298 ⟨Nat.le_of_ble_eq_true rfl, Nat.le_of_ble_eq_true rfl⟩) (fun M_298 H locs h_298 hW => ?_)
        obtain ⟨G_5, hS, eG_5⟩ := h_298
        refine lv_iload_n hx hb dX5_bars_301 rfl (lv_at hl 1 rfl) ?_
        refine W.cut (fun z => z = nI (if rMeet G_5 = true then 1 else 0)) (fun z => F0 m 314 ls (.int z :: [.int (nI n)])) (fun z_314 hz_314 => ?_) (fun J_314 => ?_)
        · subst hz_314
          refine lv_iadd hx hb dX5_bars_314 ?_
          refine top_eq (y := nI (n + (if rMeet G_5 = true then 1 else 0))) (tn_add rfl rfl) ?_
          refine lv_istore_n (lv' := [(3, .int (nI (n + (if rMeet G_5 = true then 1 else 0)))), (4, .int (nI m1)), (0, .ref X), (1, .int (nI k)), (2, .int q)]) hx hb dX5_bars_315 rfl hl (by decide) rfl (fun ls hl => ?_)
          refine lv_iinc (v := nI (m1 + 1)) (lv' := [(4, .int (nI (m1 + 1))), (3, .int (nI (n + (if rMeet G_5 = true then 1 else 0)))), (0, .ref X), (1, .int (nI k)), (2, .int q)]) hx hb dX5_bars_316 hl (k := 1) rfl (by exact tn_add rfl rfl) (by decide) rfl (fun ls hl => ?_)
          refine lv_goto (tgt := 176) hx hb dX5_bars_319 (by decide) ?_
          exact ih_176 ((m1 + 1), (n + (if rMeet G_5 = true then 1 else 0)), G_5, _, _, _, _) ⟨by omega, by subst eG_5 eG_4 eG_3 eG_2; rw [hn, oth4 hA]; simp [cnt, Nat.add_assoc, cW, c_198], hS, by subst eG_5 eG_4 eG_3 eG_2; exact askI_o (askI_o (askI_o (askI_o hA _ _ _) _ _ _) _ _ _) _ _ _, hW, lv_sub hl [0, 1, 2, 3, 4] rfl⟩ (by show nw - (m1 + 1) < nw - m1; omega)
        · refine lv_aload_n hx hb dX5_bars_302 rfl (lv_at hl 2 rfl) ?_
          refine ro_goI (ro_V (As := []) (rest := [.int (nI n)]) C hW.rd st_X5_205 (c_X5_meets l D cs _ X ad v F G_5 hS) hS.1 rfl rfl ⟨rfl, rfl, Nat.le_of_ble_eq_true rfl, Nat.le_of_ble_eq_true rfl⟩ rfl hl.1 rfl (Nat.le_of_ble_eq_true rfl) dX5_bars_303 ⟨Nat.le_of_ble_eq_true rfl, Nat.le_of_ble_eq_true rfl⟩) (fun r_303 h_303 => ?_)
          refine lv_if_eq (tgt := 313) hx hb dX5_bars_306 (by decide) (fun c_306 => ?_) (fun c_306 => ?_)
          · have c_306 : ¬ (rMeet G_5 = true) := bz0 h_303 c_306
            refine lv_iconst (v := 0) hx hb dX5_bars_313 (by decide) ?_
            exact J_314 _ (by rw [if_neg c_306]; rfl)
          · have c_306 : rMeet G_5 = true := bz1 h_303 c_306
            refine lv_iconst (v := 1) hx hb dX5_bars_309 (by decide) ?_
            refine lv_goto (tgt := 314) hx hb dX5_bars_310 (by decide) ?_
            exact J_314 _ (by rw [if_pos c_306]; rfl)
  · have c_17 := cle_f (a := nm) (b := m0) c_17 (by omega) (by omega)
    refine lv_aload_n hx hb dX5_bars_20 rfl (lv_at hl 2 rfl) ?_
    refine gf_X5_26 C hW.rd hS.1 rfl dX5_bars_21 ?_
    refine lv_iload hx hb dX5_bars_24 (lv_at hl 0 rfl) ?_
    refine r_ialdN (k := m0) C hW.rd (RS.i hS 8 40 rfl rfl) (by omega) (by decide) rfl dX5_bars_26 ?_
    refine lv_aload_n hx hb dX5_bars_27 rfl (lv_at hl 2 rfl) ?_
    refine gf_X5_71 C hW.rd hS.1 rfl dX5_bars_28 ?_
    refine lv_iload_n hx hb dX5_bars_31 rfl (lv_at hl 3 rfl) ?_
    refine r_ialdN (k := k) C hW.rd (RS.i hS 25 80 rfl rfl) (by omega) (by decide) rfl dX5_bars_32 ?_
    refine lv_icmp_ne (tgt := 167) hx hb dX5_bars_33 (by decide) (fun c_33 => ?_) (fun c_33 => ?_)
    · refine lv_iinc (v := nI (m0 + 1)) (lv' := [(4, .int (nI (m0 + 1))), (3, .int (nI n)), (0, .ref X), (1, .int (nI k)), (2, .int q)]) hx hb dX5_bars_167 hl (k := 0) rfl (by exact tn_add rfl rfl) (by decide) rfl (fun ls hl => ?_)
      refine lv_goto (tgt := 11) hx hb dX5_bars_170 (by decide) ?_
      exact ih_11 ((m0 + 1), n, G1, _, _, _, _) ⟨by omega, by rw [hn]; simp [cnt, cM, c_33], hS, hA, hW, lv_sub hl [0, 1, 2, 3, 4] rfl⟩ (by show nm - (m0 + 1) < nm - m0; omega)
    · refine lv_aload_n hx hb dX5_bars_36 rfl (lv_at hl 2 rfl) ?_
      refine lv_iconst (v := 0) hx hb dX5_bars_37 (by decide) ?_
      refine lv_aload_n hx hb dX5_bars_38 rfl (lv_at hl 2 rfl) ?_
      refine gf_X5_29 C hW.rd hS.1 rfl dX5_bars_39 ?_
      refine lv_iload hx hb dX5_bars_42 (lv_at hl 0 rfl) ?_
      refine r_ialdN (k := m0) C hW.rd (RS.i hS 9 40 rfl rfl) (by omega) (by decide) rfl dX5_bars_44 ?_
      refine lv_i2l hx hb dX5_bars_45 rfl ?_
      refine lv_aload_n hx hb dX5_bars_46 rfl (lv_at hl 2 rfl) ?_
      refine gf_X5_32 C hW.rd hS.1 rfl dX5_bars_47 ?_
      refine lv_iload hx hb dX5_bars_50 (lv_at hl 0 rfl) ?_
      refine r_ialdN (k := m0) C hW.rd (RS.i hS 10 40 rfl rfl) (by omega) (by decide) rfl dX5_bars_52 ?_
      refine lv_i2l hx hb dX5_bars_53 rfl ?_
      refine wr_goV hW (wr_V (As := [.int 0, .long ((F 9 m0).toInt64), .long ((F 10 m0).toInt64)]) (rest := []) C hW st_X5_201 (c_X5_other l D cs A _ X ad v F G1 hS 0 (by omega) ((F 9 m0).toInt64) ((F 10 m0).toInt64)) hS.1 rfl rfl ⟨rfl, rfl, Nat.le_of_ble_eq_true rfl, Nat.le_of_ble_eq_true rfl⟩ rfl hl.1 rfl (Nat.le_of_ble_eq_true rfl) dX5_bars_54 ⟨Nat.le_of_ble_eq_true rfl, Nat.le_of_ble_eq_true rfl⟩) (fun M_54 H locs h_54 hW => ?_)
      obtain ⟨G_6, hS, eG_6⟩ := h_54
      refine lv_aload_n hx hb dX5_bars_57 rfl (lv_at hl 2 rfl) ?_
      refine lv_iconst (v := 1) hx hb dX5_bars_58 (by decide) ?_
      refine lv_aload_n hx hb dX5_bars_59 rfl (lv_at hl 2 rfl) ?_
      refine gf_X5_29 C hW.rd hS.1 rfl dX5_bars_60 ?_
      refine lv_iload hx hb dX5_bars_63 (lv_at hl 0 rfl) ?_
      refine r_ialdN (k := m0) C hW.rd (RS.i hS 9 40 rfl rfl) (by omega) (by decide) rfl dX5_bars_65 ?_
      refine lv_aload_n hx hb dX5_bars_66 rfl (lv_at hl 2 rfl) ?_
      refine gf_X5_35 C hW.rd hS.1 rfl dX5_bars_67 ?_
      refine lv_iload hx hb dX5_bars_70 (lv_at hl 0 rfl) ?_
      refine r_ialdN (k := m0) C hW.rd (RS.i hS 11 40 rfl rfl) (by omega) (by decide) rfl dX5_bars_72 ?_
      refine lv_iadd hx hb dX5_bars_73 ?_
      refine lv_i2l hx hb dX5_bars_74 rfl ?_
      refine lv_aload_n hx hb dX5_bars_75 rfl (lv_at hl 2 rfl) ?_
      refine gf_X5_32 C hW.rd hS.1 rfl dX5_bars_76 ?_
      refine lv_iload hx hb dX5_bars_79 (lv_at hl 0 rfl) ?_
      refine r_ialdN (k := m0) C hW.rd (RS.i hS 10 40 rfl rfl) (by omega) (by decide) rfl dX5_bars_81 ?_
      refine lv_i2l hx hb dX5_bars_82 rfl ?_
      refine wr_goV hW (wr_V (As := [.int 1, .long (((F 9 m0) + (F 11 m0)).toInt64), .long ((F 10 m0).toInt64)]) (rest := []) C hW st_X5_201 (c_X5_other l D cs A _ X ad v F G_6 hS 1 (by omega) (((F 9 m0) + (F 11 m0)).toInt64) ((F 10 m0).toInt64)) hS.1 rfl rfl ⟨rfl, rfl, Nat.le_of_ble_eq_true rfl, Nat.le_of_ble_eq_true rfl⟩ rfl hl.1 rfl (Nat.le_of_ble_eq_true rfl) dX5_bars_83 ⟨Nat.le_of_ble_eq_true rfl, Nat.le_of_ble_eq_true rfl⟩) (fun M_83 H locs h_83 hW => ?_)
      obtain ⟨G_7, hS, eG_7⟩ := h_83
      refine lv_aload_n hx hb dX5_bars_86 rfl (lv_at hl 2 rfl) ?_
      refine lv_iconst (v := 2) hx hb dX5_bars_87 (by decide) ?_
      refine lv_aload_n hx hb dX5_bars_88 rfl (lv_at hl 2 rfl) ?_
      refine gf_X5_29 C hW.rd hS.1 rfl dX5_bars_89 ?_
      refine lv_iload hx hb dX5_bars_92 (lv_at hl 0 rfl) ?_
      refine r_ialdN (k := m0) C hW.rd (RS.i hS 9 40 rfl rfl) (by omega) (by decide) rfl dX5_bars_94 ?_
      refine lv_aload_n hx hb dX5_bars_95 rfl (lv_at hl 2 rfl) ?_
      refine gf_X5_35 C hW.rd hS.1 rfl dX5_bars_96 ?_
      refine lv_iload hx hb dX5_bars_99 (lv_at hl 0 rfl) ?_
      refine r_ialdN (k := m0) C hW.rd (RS.i hS 11 40 rfl rfl) (by omega) (by decide) rfl dX5_bars_101 ?_
      refine lv_iadd hx hb dX5_bars_102 ?_
      refine lv_i2l hx hb dX5_bars_103 rfl ?_
      refine lv_aload_n hx hb dX5_bars_104 rfl (lv_at hl 2 rfl) ?_
      refine gf_X5_32 C hW.rd hS.1 rfl dX5_bars_105 ?_
      refine lv_iload hx hb dX5_bars_108 (lv_at hl 0 rfl) ?_
      refine r_ialdN (k := m0) C hW.rd (RS.i hS 10 40 rfl rfl) (by omega) (by decide) rfl dX5_bars_110 ?_
      refine lv_aload_n hx hb dX5_bars_111 rfl (lv_at hl 2 rfl) ?_
      refine gf_X5_38 C hW.rd hS.1 rfl dX5_bars_112 ?_
      refine lv_iload hx hb dX5_bars_115 (lv_at hl 0 rfl) ?_
      refine r_ialdN (k := m0) C hW.rd (RS.i hS 12 40 rfl rfl) (by omega) (by decide) rfl dX5_bars_117 ?_
      refine lv_iadd hx hb dX5_bars_118 ?_
      refine lv_i2l hx hb dX5_bars_119 rfl ?_
      refine wr_goV hW (wr_V (As := [.int 2, .long (((F 9 m0) + (F 11 m0)).toInt64), .long (((F 10 m0) + (F 12 m0)).toInt64)]) (rest := []) C hW st_X5_201 (c_X5_other l D cs A _ X ad v F G_7 hS 2 (by omega) (((F 9 m0) + (F 11 m0)).toInt64) (((F 10 m0) + (F 12 m0)).toInt64)) hS.1 rfl rfl ⟨rfl, rfl, Nat.le_of_ble_eq_true rfl, Nat.le_of_ble_eq_true rfl⟩ rfl hl.1 rfl (Nat.le_of_ble_eq_true rfl) dX5_bars_120 ⟨Nat.le_of_ble_eq_true rfl, Nat.le_of_ble_eq_true rfl⟩) (fun M_120 H locs h_120 hW => ?_)
      obtain ⟨G_8, hS, eG_8⟩ := h_120
      refine lv_aload_n hx hb dX5_bars_123 rfl (lv_at hl 2 rfl) ?_
      refine lv_iconst (v := 3) hx hb dX5_bars_124 (by decide) ?_
      refine lv_aload_n hx hb dX5_bars_125 rfl (lv_at hl 2 rfl) ?_
      refine gf_X5_29 C hW.rd hS.1 rfl dX5_bars_126 ?_
      refine lv_iload hx hb dX5_bars_129 (lv_at hl 0 rfl) ?_
      refine r_ialdN (k := m0) C hW.rd (RS.i hS 9 40 rfl rfl) (by omega) (by decide) rfl dX5_bars_131 ?_
      refine lv_i2l hx hb dX5_bars_132 rfl ?_
      refine lv_aload_n hx hb dX5_bars_133 rfl (lv_at hl 2 rfl) ?_
      refine gf_X5_32 C hW.rd hS.1 rfl dX5_bars_134 ?_
      refine lv_iload hx hb dX5_bars_137 (lv_at hl 0 rfl) ?_
      refine r_ialdN (k := m0) C hW.rd (RS.i hS 10 40 rfl rfl) (by omega) (by decide) rfl dX5_bars_139 ?_
      refine lv_aload_n hx hb dX5_bars_140 rfl (lv_at hl 2 rfl) ?_
      refine gf_X5_38 C hW.rd hS.1 rfl dX5_bars_141 ?_
      refine lv_iload hx hb dX5_bars_144 (lv_at hl 0 rfl) ?_
      refine r_ialdN (k := m0) C hW.rd (RS.i hS 12 40 rfl rfl) (by omega) (by decide) rfl dX5_bars_146 ?_
      refine lv_iadd hx hb dX5_bars_147 ?_
      refine lv_i2l hx hb dX5_bars_148 rfl ?_
      refine wr_goV hW (wr_V (As := [.int 3, .long ((F 9 m0).toInt64), .long (((F 10 m0) + (F 12 m0)).toInt64)]) (rest := []) C hW st_X5_201 (c_X5_other l D cs A _ X ad v F G_8 hS 3 (by omega) ((F 9 m0).toInt64) (((F 10 m0) + (F 12 m0)).toInt64)) hS.1 rfl rfl ⟨rfl, rfl, Nat.le_of_ble_eq_true rfl, Nat.le_of_ble_eq_true rfl⟩ rfl hl.1 rfl (Nat.le_of_ble_eq_true rfl) dX5_bars_149 ⟨Nat.le_of_ble_eq_true rfl, Nat.le_of_ble_eq_true rfl⟩) (fun M_149 H locs h_149 hW => ?_)
      obtain ⟨G_9, hS, eG_9⟩ := h_149
      refine lv_iload_n hx hb dX5_bars_152 rfl (lv_at hl 1 rfl) ?_
      refine W.cut (fun z => z = nI (if rMeet G_9 = true then 1 else 0)) (fun z => F0 m 165 ls (.int z :: [.int (nI n)])) (fun z_165 hz_165 => ?_) (fun J_165 => ?_)
      · subst hz_165
        refine lv_iadd hx hb dX5_bars_165 ?_
        refine top_eq (y := nI (n + (if rMeet G_9 = true then 1 else 0))) (tn_add rfl rfl) ?_
        refine lv_istore_n (lv' := [(3, .int (nI (n + (if rMeet G_9 = true then 1 else 0)))), (4, .int (nI m0)), (0, .ref X), (1, .int (nI k)), (2, .int q)]) hx hb dX5_bars_166 rfl hl (by decide) rfl (fun ls hl => ?_)
        refine lv_iinc (v := nI (m0 + 1)) (lv' := [(4, .int (nI (m0 + 1))), (3, .int (nI (n + (if rMeet G_9 = true then 1 else 0)))), (0, .ref X), (1, .int (nI k)), (2, .int q)]) hx hb dX5_bars_167 hl (k := 1) rfl (by exact tn_add rfl rfl) (by decide) rfl (fun ls hl => ?_)
        refine lv_goto (tgt := 11) hx hb dX5_bars_170 (by decide) ?_
        exact ih_11 ((m0 + 1), (n + (if rMeet G_9 = true then 1 else 0)), G_9, _, _, _, _) ⟨by omega, by subst eG_9 eG_8 eG_7 eG_6; rw [hn, oth4 hA]; simp [cnt, cM, c_33], hS, by subst eG_9 eG_8 eG_7 eG_6; exact askI_o (askI_o (askI_o (askI_o hA _ _ _) _ _ _) _ _ _) _ _ _, hW, lv_sub hl [0, 1, 2, 3, 4] rfl⟩ (by show nm - (m0 + 1) < nm - m0; omega)
      · refine lv_aload_n hx hb dX5_bars_153 rfl (lv_at hl 2 rfl) ?_
        refine ro_goI (ro_V (As := []) (rest := [.int (nI n)]) C hW.rd st_X5_205 (c_X5_meets l D cs _ X ad v F G_9 hS) hS.1 rfl rfl ⟨rfl, rfl, Nat.le_of_ble_eq_true rfl, Nat.le_of_ble_eq_true rfl⟩ rfl hl.1 rfl (Nat.le_of_ble_eq_true rfl) dX5_bars_154 ⟨Nat.le_of_ble_eq_true rfl, Nat.le_of_ble_eq_true rfl⟩) (fun r_154 h_154 => ?_)
        refine lv_if_eq (tgt := 164) hx hb dX5_bars_157 (by decide) (fun c_157 => ?_) (fun c_157 => ?_)
        · have c_157 : ¬ (rMeet G_9 = true) := bz0 h_154 c_157
          refine lv_iconst (v := 0) hx hb dX5_bars_164 (by decide) ?_
          exact J_165 _ (by rw [if_neg c_157]; rfl)
        · have c_157 : rMeet G_9 = true := bz1 h_154 c_157
          refine lv_iconst (v := 1) hx hb dX5_bars_160 (by decide) ?_
          refine lv_goto (tgt := 165) hx hb dX5_bars_161 (by decide) ?_
          exact J_165 _ (by rw [if_pos c_157]; rfl)


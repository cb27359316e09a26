/-- a boolean as the machine holds it -/
def bI (P : Prop) [Decidable P] : Int32 := if P then 1 else 0
theorem bI_t {P : Prop} [Decidable P] (h : P) : (1 : Int32) = bI P := by simp [bI, h]
theorem bI_f {P : Prop} [Decidable P] (h : ¬ P) : (0 : Int32) = bI P := by simp [bI, h]
theorem bz0 {P : Prop} [Decidable P] {r : Int32} (h : r = bI P) (c : r = 0) : ¬ P := fun q => by
  rw [h] at c
  simp [bI, q] at c
theorem bz1 {P : Prop} [Decidable P] {r : Int32} (h : r = bI P) (c : ¬ r = 0) : P := by
  by_cases q : P
  · exact q
  · exact absurd (by rw [h]; simp [bI, q]) c
theorem bI_01 {P : Prop} [Decidable P] {r : Int32} (h : r = bI P) : r = 0 ∨ r = 1 := by
  by_cases q : P <;> simp [h, bI, q]
theorem z_nar {v : Int32} (h : v = 0 ∨ v = 1) : narrow .boolean (.int v) = .int v := by rcases h with rfl | rfl <;> rfl
theorem z_vp {v : Int32} (h : v = 0 ∨ v = 1) : vp_nar .boolean v = v := by rcases h with rfl | rfl <;> rfl
theorem tn_add {x y : Int32} {a b : Nat} (h : x = nI a) (k : y = nI b) : x + y = nI (a + b) := by rw [h, k, nI_add]
theorem tn_mul {x y : Int32} {a b : Nat} (h : x = nI a) (k : y = nI b) : x * y = nI (a * b) := by rw [h, k, pk_mul]
theorem tn_sub {x y : Int32} {a b : Nat} (h : x = nI a) (k : y = nI b) (q : b ≤ a) : x - y = nI (a - b) := by rw [h, k, pk_sub q]
theorem tn_div {x y : Int32} {a b : Nat} (h : x = nI a) (k : y = nI b) (ha : a < 2147483648) (hb : 0 < b) (hb2 : b < 2147483648) : x / y = nI (a / b) := by rw [h, k, pk_div ha hb hb2]
theorem tn_rem {x y : Int32} {a b : Nat} (h : x = nI a) (k : y = nI b) (ha : a < 2147483648) (hb : 0 < b) (hb2 : b < 2147483648) : x - x / y * y = nI (a % b) := by rw [h, k, pk_rem ha hb hb2]
theorem cle_t {a b : Nat} (c : nI a ≤ nI b) (ha : a < 2147483648) (hb : b < 2147483648) : a ≤ b := (nI_leI ha hb).mp c
theorem cle_f {a b : Nat} (c : ¬ nI a ≤ nI b) (ha : a < 2147483648) (hb : b < 2147483648) : b < a := Nat.not_le.mp fun h => c ((nI_leI ha hb).mpr h)
theorem clt_t {a b : Nat} (c : nI a < nI b) (ha : a < 2147483648) (hb : b < 2147483648) : a < b := (nI_ltI ha hb).mp c
theorem clt_f {a b : Nat} (c : ¬ nI a < nI b) (ha : a < 2147483648) (hb : b < 2147483648) : b ≤ a := Nat.not_lt.mp fun h => c ((nI_ltI ha hb).mpr h)
theorem ceq_t {a b : Nat} (c : nI a = nI b) (ha : a < 2147483648) (hb : b < 2147483648) : a = b := (nI_eq ha hb).mp c
theorem ceq_f {a b : Nat} (c : ¬ nI a = nI b) (ha : a < 2147483648) (hb : b < 2147483648) : ¬ a = b := fun h => c ((nI_eq ha hb).mpr h)
section MORE
variable {p : Program} {l : Launch} {e : Env} {R : Room} {s : State} {m : MethodId} {args : Array Value} {below : List Frame} {meth : Method} {c : Code} {H : Heap} {locs : List Loc} {cells slots : Nat} {Q : State → Prop}
variable {cc : ByteArray} {pc nL : Nat} {ls : Array Slot} {rest : List Value} {D : va_G} {cs : Nat → ClassId} {A : Nat → Prop} {a : Nat} {H0 : Heap} {M : wM} {own : String}
theorem top_eq {x y : Int32} (h : x = y) (kk : W p l e R s m args below meth c H locs cells slots Q (F0 m pc ls (.int y :: rest))) : W p l e R s m args below meth c H locs cells slots Q (F0 m pc ls (.int x :: rest)) := h ▸ kk
theorem top_eqL {x y : Int64} (h : x = y) (kk : W p l e R s m args below meth c H locs cells slots Q (F0 m pc ls (.long y :: rest))) : W p l e R s m args below meth c H locs cells slots Q (F0 m pc ls (.long x :: rest)) := h ▸ kk
theorem top_rf {o : Option Nat} {b : Nat} (h : o = some b) (kk : W p l e R s m args below meth c H locs cells slots Q (F0 m pc ls (.ref b :: rest))) : W p l e R s m args below meth c H locs cells slots Q (F0 m pc ls (va_rf o :: rest)) := by
  subst h
  exact kk
theorem r_ialdN (C : kx D cs p m c cc nL s args own) (hR : rd D M H) {n : Nat} {f : Nat → Int32} (hM : M a = some (.inl (cs 0, n, .inl f))) {k : Nat} (hk : k < n) (hn : n < 2147483648) {i : Int32} (hi : i = nI k) (hdg : decode cc pc = .ok (.iaload, 1)) (kk : W p l e R s m args below meth c H locs cells slots Q (F0 m (pc + 1) ls (.int (f k) :: rest))) : W p l e R s m args below meth c H locs cells slots Q (F0 m pc ls (.int i :: .ref a :: rest)) := by
  subst hi
  refine r_iald C hR hM (vp_in_nI hk hn) hdg ?_
  rw [nI_clamp (by omega)]
  exact kk
theorem r_laldN (C : kx D cs p m c cc nL s args own) (hR : rd D M H) {n : Nat} {f : Nat → Int64} (hM : M a = some (.inl (cs 1, n, .inr (.inl f)))) {k : Nat} (hk : k < n) (hn : n < 2147483648) {i : Int32} (hi : i = nI k) (hdg : decode cc pc = .ok (.laload, 1)) (kk : W p l e R s m args below meth c H locs cells slots Q (F0 m (pc + 1) ls (.long (f k) :: rest))) : W p l e R s m args below meth c H locs cells slots Q (F0 m pc ls (.int i :: .ref a :: rest)) := by
  subst hi
  refine r_lald C hR hM (vp_in_nI hk hn) hdg ?_
  rw [nI_clamp (by omega)]
  exact kk
theorem r_zaldN (C : kx D cs p m c cc nL s args own) (hR : rd D M H) {n : Nat} {f : Nat → Int32} (hM : M a = some (.inl (cs 2, n, .inl f))) {k : Nat} (hk : k < n) (hn : n < 2147483648) {i : Int32} (hi : i = nI k) (hdg : decode cc pc = .ok (.baload, 1)) (kk : W p l e R s m args below meth c H locs cells slots Q (F0 m (pc + 1) ls (.int (f k) :: rest))) : W p l e R s m args below meth c H locs cells slots Q (F0 m pc ls (.int i :: .ref a :: rest)) := by
  subst hi
  refine r_zald C hR hM (vp_in_nI hk hn) hdg ?_
  rw [nI_clamp (by omega)]
  exact kk
theorem r_aaldN (C : kx D cs p m c cc nL s args own) (hR : rd D M H) (t0 : Nat) {cA : ClassId} {Cn : String} {n : Nat} {f : Nat → Option Nat} (hM : M a = some (.inl (cA, n, .inr (.inr (.inr (.inr f)))))) (ht : (tyl cs)[t0]? = some (cA, .object Cn)) {k b : Nat} (hk : k < n) (hn : n < 2147483648) {i : Int32} (hi : i = nI k) (hfb : f k = some b) (hdg : decode cc pc = .ok (.aaload, 1)) (kk : W p l e R s m args below meth c H locs cells slots Q (F0 m (pc + 1) ls (.ref b :: rest))) : W p l e R s m args below meth c H locs cells slots Q (F0 m pc ls (.int i :: .ref a :: rest)) := by
  subst hi
  refine r_aald C hR t0 hM ht (vp_in_nI hk hn) hdg ?_
  rw [nI_clamp (by omega)]
  exact top_rf hfb kk
theorem w_iastN (C : kx D cs p m c cc nL s args own) (hW : wd D A M H0 H locs) {n : Nat} {f : Nat → Int32} (hM : M a = some (.inl (cs 0, n, .inl f))) {k : Nat} (hk : k < n) (hn : n < 2147483648) {i x : Int32} (hi : i = nI k) (hdg : decode cc pc = .ok (.iastore, 1)) (kk : ∀ (H1 : Heap) (locs1 : List Loc), wd D A (va_up M a (some (.inl (cs 0, n, .inl (upd f k x))))) H0 H1 locs1 → W p l e R s m args below meth c H1 locs1 cells slots Q (F0 m (pc + 1) ls rest)) : W p l e R s m args below meth c H locs cells slots Q (F0 m pc ls (.int x :: .int i :: .ref a :: rest)) := by
  subst hi
  refine w_iast C hW hM (vp_in_nI hk hn) hdg ?_
  rw [nI_clamp (by omega)]
  exact kk
theorem w_lastN (C : kx D cs p m c cc nL s args own) (hW : wd D A M H0 H locs) {n : Nat} {f : Nat → Int64} (hM : M a = some (.inl (cs 1, n, .inr (.inl f)))) {k : Nat} (hk : k < n) (hn : n < 2147483648) {i : Int32} {x : Int64} (hi : i = nI k) (hdg : decode cc pc = .ok (.lastore, 1)) (kk : ∀ (H1 : Heap) (locs1 : List Loc), wd D A (va_up M a (some (.inl (cs 1, n, .inr (.inl (vp_updL f k x)))))) H0 H1 locs1 → W p l e R s m args below meth c H1 locs1 cells slots Q (F0 m (pc + 1) ls rest)) : W p l e R s m args below meth c H locs cells slots Q (F0 m pc ls (.long x :: .int i :: .ref a :: rest)) := by
  subst hi
  refine w_last C hW hM (vp_in_nI hk hn) hdg ?_
  rw [nI_clamp (by omega)]
  exact kk
theorem w_zastN (C : kx D cs p m c cc nL s args own) (hW : wd D A M H0 H locs) {n : Nat} {f : Nat → Int32} (hM : M a = some (.inl (cs 2, n, .inl f))) {k : Nat} (hk : k < n) (hn : n < 2147483648) {i x : Int32} (hz : x = 0 ∨ x = 1) (hi : i = nI k) (hdg : decode cc pc = .ok (.bastore, 1)) (kk : ∀ (H1 : Heap) (locs1 : List Loc), wd D A (va_up M a (some (.inl (cs 2, n, .inl (upd f k x))))) H0 H1 locs1 → W p l e R s m args below meth c H1 locs1 cells slots Q (F0 m (pc + 1) ls rest)) : W p l e R s m args below meth c H locs cells slots Q (F0 m pc ls (.int x :: .int i :: .ref a :: rest)) := by
  subst hi
  refine w_zast C hW hM (z_vp hz) (vp_in_nI hk hn) hdg ?_
  rw [nI_clamp (by omega)]
  exact kk
theorem w_aastN (C : kx D cs p m c cc nL s args own) (hW : wd D A M H0 H locs) (t0 ci : Nat) {cA : ClassId} {r : vw_C} {n v : Nat} {vs : List Value} {f : Nat → Option Nat} (hM : M a = some (.inl (cA, n, .inr (.inr (.inr (.inr f)))))) (ht : (tyl cs)[t0]? = some (cA, .object r.1)) (hv : M v = some (.inr (ci, vs))) (hc : vwCl[ci]? = some r) {k : Nat} (hk : k < n) (hn : n < 2147483648) {i : Int32} (hi : i = nI k) (hdg : decode cc pc = .ok (.aastore, 1)) (kk : ∀ (H1 : Heap) (locs1 : List Loc), wd D A (va_up M a (some (.inl (cA, n, .inr (.inr (.inr (.inr (va_up f k (some v))))))))) H0 H1 locs1 → W p l e R s m args below meth c H1 locs1 cells slots Q (F0 m (pc + 1) ls rest)) : W p l e R s m args below meth c H locs cells slots Q (F0 m pc ls (.ref v :: .int i :: .ref a :: rest)) := by
  subst hi
  refine w_aast C hW t0 ci hM ht hv hc (vp_in_nI hk hn) hdg ?_
  rw [nI_clamp (by omega)]
  exact kk
/-- a switch by numbers 0 to n -/
theorem sw_in (C : kx D cs p m c cc nL s args own) {dflt hi : Int} {offs : Array Int} {len : Nat} {x : Int32} {off : Int} {tgt : Nat} (k : Nat) (hx : x = nI k) (hk : k < 2147483648) (hkh : (k : Int) ≤ hi) (hdg : decode cc pc = .ok (.tableswitch dflt 0 hi offs, len)) (ho : offs[k]? = some off) (ht : (pc : Int) + off = (tgt : Int)) (kk : W p l e R s m args below meth c H locs cells slots Q (F0 m tgt ls rest)) : W p l e R s m args below meth c H locs cells slots Q (F0 m pc ls (.int x :: rest)) := by
  subst hx
  have e1 := nI_toInt hk
  refine lv_tableIn C.1.1 C.1.2.1 hdg (by omega) (by omega) ?_ ht kk
  rw [e1, Int.sub_zero, Int.toNat_natCast]
  exact ho
theorem sw_out (C : kx D cs p m c cc nL s args own) {dflt hi : Int} {offs : Array Int} {len : Nat} {x : Int32} {tgt : Nat} (hx : x.toInt < 0 ∨ hi < x.toInt) (hdg : decode cc pc = .ok (.tableswitch dflt 0 hi offs, len)) (ht : (pc : Int) + dflt = (tgt : Int)) (kk : W p l e R s m args below meth c H locs cells slots Q (F0 m tgt ls rest)) : W p l e R s m args below meth c H locs cells slots Q (F0 m pc ls (.int x :: rest)) :=
  lv_tableOut C.1.1 C.1.2.1 hdg hx ht kk
end MORE
/-- a number is one of 0 to n - 1, or it is outside -/
theorem sw_cases (x : Int32) (n : Nat) : (x.toInt < 0 ∨ (n : Int) < x.toInt) ∨ ∃ k, k ≤ n ∧ x = nI k := by
  by_cases h : x.toInt < 0 ∨ (n : Int) < x.toInt
  · exact Or.inl h
  · refine Or.inr ⟨x.toInt.toNat, by omega, ?_⟩
    have h1 : ¬ x < 0 := fun q => h (Or.inl (by simpa [Int32.lt_iff_toInt_lt] using q))
    obtain ⟨j, hj, e⟩ := nI_of h1
    subst e
    rw [nI_toInt hj, Int.toNat_natCast]
section CUTS
variable {p : Program} {l : Launch} {e : Env} {R : Room} {s : State} {m : MethodId} {args : Array Value} {below : List Frame} {meth : Method} {c : Code} {H : Heap} {locs : List Loc} {cells slots : Nat} {Q : State → Prop}
/-- where two ways come together with a number on the stack -/
theorem W.cut {g : JFrame} (P : Int32 → Prop) (g2 : Int32 → JFrame) (h2 : ∀ z, P z → W p l e R s m args below meth c H locs cells slots Q (g2 z)) (h1 : (∀ z, P z → W p l e R s m args below meth c H locs cells slots Q (g2 z)) → W p l e R s m args below meth c H locs cells slots Q g) : W p l e R s m args below meth c H locs cells slots Q g := h1 h2
theorem W.cutL {g : JFrame} (P : Int64 → Prop) (g2 : Int64 → JFrame) (h2 : ∀ z, P z → W p l e R s m args below meth c H locs cells slots Q (g2 z)) (h1 : (∀ z, P z → W p l e R s m args below meth c H locs cells slots Q (g2 z)) → W p l e R s m args below meth c H locs cells slots Q g) : W p l e R s m args below meth c H locs cells slots Q g := h1 h2
/-- where ways come together, nothing on the stack -/
theorem W.cutP {g : JFrame} (P : Prop) (g2 : JFrame) (h2 : P → W p l e R s m args below meth c H locs cells slots Q g2) (h1 : (P → W p l e R s m args below meth c H locs cells slots Q g2) → W p l e R s m args below meth c H locs cells slots Q g) : W p l e R s m args below meth c H locs cells slots Q g := h1 h2
/-- a loop that writes nothing -/
theorem W.loop {σ : Type} {g0 : JFrame} (G : σ → JFrame) (I : σ → Prop) (μ : σ → Nat) (step : ∀ x, I x → (∀ y, I y → μ y < μ x → W p l e R s m args below meth c H locs cells slots Q (G y)) → W p l e R s m args below meth c H locs cells slots Q (G x)) (x0 : σ) (h0 : I x0) (hg : g0 = G x0) : W p l e R s m args below meth c H locs cells slots Q g0 := by
  have key : ∀ (n : Nat) (x : σ), μ x < n → I x → W p l e R s m args below meth c H locs cells slots Q (G x) := by
    intro n
    induction n with
    | zero => intro x h; exact absurd h (Nat.not_lt_zero _)
    | succ n ih => intro x hx hI; exact step x hI (fun y hy hlt => ih y (by omega) hy)
  rw [hg]
  exact key (μ x0 + 1) x0 (Nat.lt_succ_self _) h0
/-- a loop that writes -/
theorem W.loopW {σ : Type} {g0 : JFrame} {H0 : Heap} {locs0 : List Loc} (G : σ → JFrame) (Hf : σ → Heap) (Lf : σ → List Loc) (I : σ → Prop) (μ : σ → Nat) (step : ∀ x, I x → (∀ y, I y → μ y < μ x → W p l e R s m args below meth c (Hf y) (Lf y) cells slots Q (G y)) → W p l e R s m args below meth c (Hf x) (Lf x) cells slots Q (G x)) (x0 : σ) (h0 : I x0) (hg : g0 = G x0) (hh : H0 = Hf x0) (hlo : locs0 = Lf x0) : W p l e R s m args below meth c H0 locs0 cells slots Q g0 := by
  have key : ∀ (n : Nat) (x : σ), μ x < n → I x → W p l e R s m args below meth c (Hf x) (Lf x) cells slots Q (G x) := by
    intro n
    induction n with
    | zero => intro x h; exact absurd h (Nat.not_lt_zero _)
    | succ n ih => intro x hx hI; exact step x hI (fun y hy hlt => ih y (by omega) hy)
  rw [hg, hh, hlo]
  exact key (μ x0 + 1) x0 (Nat.lt_succ_self _) h0
end CUTS

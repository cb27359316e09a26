/-- the array kinds of this system -/
def tyl (cs : Nat → ClassId) : List (ClassId × FieldType) := [(cs 0, .int), (cs 1, .long), (cs 2, .boolean), (cs 3, .object RX0), (cs 4, .object RX1), (cs 5, .object RX2), (cs 6, .object RX3)]
abbrev wM : Type := Nat → Option va_E
/-- the cells that M tells are in the heap -/
def rd (D : va_G) (M : wM) (H : Heap) : Prop := ∀ (a : Nat) (e : va_E), M a = some e → va_at D vwCl (a, e) H
/-- the world of a method that writes: M's cells, all of kind A; since H0 nothing outside A has changed -/
def wd (D : va_G) (A : Nat → Prop) (M : wM) (H0 H : Heap) (locs : List Loc) : Prop := (∀ q, H0.size ≤ q → A q) ∧ va_S A H0 H locs ∧ ∃ (L : List Nat) (f : Nat → va_E), (∀ a e, M a = some e ↔ (a ∈ L ∧ f a = e)) ∧ va_P D vwCl (va_pl L f) H ∧ va_D A (va_pl L f)
theorem rd.one {D : va_G} {M : wM} {H : Heap} (h : rd D M H) {a : Nat} {e : va_E} (hM : M a = some e) : va_P D vwCl [(a, e)] H := fun k q hk => by
  cases k with
  | zero => cases hk; exact h a e hM
  | succ n => cases hk
theorem wd.rd {D : va_G} {A : Nat → Prop} {M : wM} {H0 H : Heap} {locs : List Loc} (h : wd D A M H0 H locs) : rd D M H := by
  obtain ⟨-, -, L, f, hM, hP, -⟩ := h
  intro a e hae
  obtain ⟨h1, h2⟩ := (hM a e).mp hae
  obtain ⟨k, hk⟩ := va_pl_get (X := []) (f := f) h1
  rw [List.nil_append, h2] at hk
  exact hP k _ hk
theorem wd.inA {D : va_G} {A : Nat → Prop} {M : wM} {H0 H : Heap} {locs : List Loc} (h : wd D A M H0 H locs) {a : Nat} {e : va_E} (hae : M a = some e) : A a := by
  obtain ⟨-, -, L, f, hM, -, hD⟩ := h
  obtain ⟨h1, h2⟩ := (hM a e).mp hae
  obtain ⟨k, hk⟩ := va_pl_get (X := []) (f := f) h1
  rw [List.nil_append] at hk
  exact hD.2 k _ hk
theorem wd.enter {D : va_G} {A : Nat → Prop} {M : wM} {H0 H : Heap} {locs : List Loc} (h : wd D A M H0 H locs) : wd D A M H H [] := by
  obtain ⟨hA, hS, h⟩ := h
  exact ⟨fun q hq => hA q (Nat.le_trans hS.1 hq), va_S.rf, h⟩
theorem up_iff {M : wM} {L : List Nat} {f : Nat → va_E} (h : ∀ a e, M a = some e ↔ (a ∈ L ∧ f a = e)) {a0 : Nat} (h0 : a0 ∈ L) (e0 : va_E) : ∀ a e, va_up M a0 (some e0) a = some e ↔ (a ∈ L ∧ va_up f a0 e0 a = e) := by
  intro a e
  by_cases hq : a = a0
  · subst hq
    simp [va_up, h0]
  · simp only [va_up, hq, if_false]
    exact h a e
theorem new_iff {M : wM} {L : List Nat} {f : Nat → va_E} (h : ∀ a e, M a = some e ↔ (a ∈ L ∧ f a = e)) {a0 : Nat} (e0 : va_E) : ∀ a e, va_up M a0 (some e0) a = some e ↔ (a ∈ L ++ [a0] ∧ va_up f a0 e0 a = e) := by
  intro a e
  by_cases hq : a = a0
  · subst hq
    simp [va_up]
  · simp only [va_up, hq, if_false]
    rw [h a e]
    simp [hq]
/-- what a method's rows stand on -/
def kx (D : va_G) (cs : Nat → ClassId) (p : Program) (m : MethodId) (c : Code) (cc : ByteArray) (nL : Nat) (s : State) (args : Array Value) (own : String) : Prop := CallFix p m c cc nL s args tt own ∧ va_K D vwCl (tyl cs) s
section RD
variable {p : Program} {l : Launch} {e : Env} {R : Room} {s : State} {m : MethodId} {args : Array Value} {below : List Frame} {meth : Method} {c : Code} {H : Heap} {locs : List Loc} {cells slots : Nat} {Q : State → Prop}
variable {cc : ByteArray} {pc nL : Nat} {ls : Array Slot} {rest : List Value} {D : va_G} {cs : Nat → ClassId} {A : Nat → Prop} {a : Nat} {H0 : Heap} {M : wM} {own : String}
theorem r_get (C : kx D cs p m c cc nL s args own) (hR : rd D M H) {Cn ref : String} {T : u_T} {N ci index : Nat} {fs : List Value} (hM : M a = some (.inr (ci, fs))) (hc : vwCl[ci]? = some (Cn, T, N)) (hin : ∀ w ∈ u_ws Cn T N, w ∈ tt) (k : Nat) (hk : k < N) (hlk : Cond.fieldLink own index ref (T k).2.1 (T k).2.2.1 ∈ tt) (href : ref = (T k).1) {v : Value} (hv : fs[k]? = some v) (hdg : decode cc pc = .ok (.getfield index, 3)) (kk : W p l e R s m args below meth c H locs cells slots Q (F0 m (pc + 3) ls (v :: rest))) : W p l e R s m args below meth c H locs cells slots Q (F0 m pc ls (.ref a :: rest)) := by
  obtain ⟨⟨hx, hb, hml, hown, hts⟩, hK⟩ := C
  exact va_get hx hb hts hin hown hK (hR.one hM) 0 rfl hc k hk (hts _ hlk) (fun x h => by rw [href]; exact h) hv hdg kk
theorem r_iald (C : kx D cs p m c cc nL s args own) (hR : rd D M H) {n : Nat} {f : Nat → Int32} (hM : M a = some (.inl (cs 0, n, .inl f))) {i : Int32} (hin : vp_in i n) (hdg : decode cc pc = .ok (.iaload, 1)) (kk : W p l e R s m args below meth c H locs cells slots Q (F0 m (pc + 1) ls (.int (f i.toNatClampNeg) :: rest))) : W p l e R s m args below meth c H locs cells slots Q (F0 m pc ls (.int i :: .ref a :: rest)) :=
  va_iald C.1.1 C.1.2.1 C.2 (hR.one hM) 0 0 rfl rfl hin hdg kk
theorem r_lald (C : kx D cs p m c cc nL s args own) (hR : rd D M H) {n : Nat} {f : Nat → Int64} (hM : M a = some (.inl (cs 1, n, .inr (.inl f)))) {i : Int32} (hin : vp_in i n) (hdg : decode cc pc = .ok (.laload, 1)) (kk : W p l e R s m args below meth c H locs cells slots Q (F0 m (pc + 1) ls (.long (f i.toNatClampNeg) :: rest))) : W p l e R s m args below meth c H locs cells slots Q (F0 m pc ls (.int i :: .ref a :: rest)) :=
  va_lald C.1.1 C.1.2.1 C.2 (hR.one hM) 0 1 rfl rfl hin hdg kk
theorem r_zald (C : kx D cs p m c cc nL s args own) (hR : rd D M H) {n : Nat} {f : Nat → Int32} (hM : M a = some (.inl (cs 2, n, .inl f))) {i : Int32} (hin : vp_in i n) (hdg : decode cc pc = .ok (.baload, 1)) (kk : W p l e R s m args below meth c H locs cells slots Q (F0 m (pc + 1) ls (.int (f i.toNatClampNeg) :: rest))) : W p l e R s m args below meth c H locs cells slots Q (F0 m pc ls (.int i :: .ref a :: rest)) :=
  va_zald C.1.1 C.1.2.1 C.2 (hR.one hM) 0 2 rfl rfl hin hdg kk
theorem r_aald (C : kx D cs p m c cc nL s args own) (hR : rd D M H) (t0 : Nat) {cA : ClassId} {Cn : String} {n : Nat} {f : Nat → Option Nat} (hM : M a = some (.inl (cA, n, .inr (.inr (.inr (.inr f)))))) (ht : (tyl cs)[t0]? = some (cA, .object Cn)) {i : Int32} (hin : vp_in i n) (hdg : decode cc pc = .ok (.aaload, 1)) (kk : W p l e R s m args below meth c H locs cells slots Q (F0 m (pc + 1) ls (va_rf (f i.toNatClampNeg) :: rest))) : W p l e R s m args below meth c H locs cells slots Q (F0 m pc ls (.int i :: .ref a :: rest)) :=
  va_aldq C.1.1 C.1.2.1 C.2 (hR.one hM) 0 t0 rfl ht hin hdg kk
theorem r_alen (C : kx D cs p m c cc nL s args own) (hR : rd D M H) (t0 : Nat) {cA : ClassId} {x : vp_A} (hM : M a = some (.inl (cA, x))) {ty : FieldType} (ht : (tyl cs)[t0]? = some (cA, ty)) {v : Int32} (hv : Int32.ofNat x.1 = v) (hdg : decode cc pc = .ok (.arraylength, 1)) (kk : W p l e R s m args below meth c H locs cells slots Q (F0 m (pc + 1) ls (.int v :: rest))) : W p l e R s m args below meth c H locs cells slots Q (F0 m pc ls (.ref a :: rest)) :=
  va_alen C.1.1 C.1.2.1 C.2 (hR.one hM) 0 t0 rfl ht hv hdg kk
/-- the list behind a world, with the place of a cell -/
theorem wd.at {D : va_G} {A : Nat → Prop} {M : wM} {H0 H : Heap} {locs : List Loc} (h : wd D A M H0 H locs) {a : Nat} {e : va_E} (hM : M a = some e) : ∃ (L : List Nat) (f : Nat → va_E) (k : Nat), (∀ a e, M a = some e ↔ (a ∈ L ∧ f a = e)) ∧ va_P D vwCl (va_pl L f) H ∧ va_D A (va_pl L f) ∧ (va_pl L f)[k]? = some (a, e) ∧ ∀ e', (va_pl L f).set k (a, e') = va_pl L (va_up f a e') ∧ ∀ a1 e1, va_up M a (some e') a1 = some e1 ↔ (a1 ∈ L ∧ va_up f a e' a1 = e1) := by
  obtain ⟨-, -, L, f, hf, hP, hD⟩ := h
  obtain ⟨h1, h2⟩ := (hf a e).mp hM
  obtain ⟨k, hk⟩ := va_pl_get (X := []) (f := f) h1
  refine ⟨L, f, k, hf, hP, hD, ?_, fun e' => ⟨?_, up_iff hf h1 e'⟩⟩
  · rw [List.nil_append, h2] at hk
    exact hk
  · have := va_pl_set (X := []) (e := e') hD h1 hk
    rwa [List.nil_append, List.nil_append] at this
theorem w_put (C : kx D cs p m c cc nL s args own) (hW : wd D A M H0 H locs) {Cn ref : String} {T : u_T} {N ci index : Nat} {fs : List Value} (hM : M a = some (.inr (ci, fs))) (hc : vwCl[ci]? = some (Cn, T, N)) (hin : ∀ w ∈ u_ws Cn T N, w ∈ tt) (ty0 : Nat → FieldType) (hty : ∀ k, k < N → parseFieldDescriptor (T k).2.2.1 = some (ty0 k)) (hnm : ∀ a, a < N → ∀ b, b < N → a ≠ b → (T a).2.1 ≠ (T b).2.1) (k : Nat) (hk : k < N) (hlk : Cond.fieldLink own index ref (T k).2.1 (T k).2.2.1 ∈ tt) (href : ref = (T k).1) (hfin : (T k).2.2.2 = false) {v : Value} (hn : narrow (ty0 k) v = v) (hfit : fits (ty0 k) v = true) (hl : k < fs.length) (hdg : decode cc pc = .ok (.putfield index, 3)) (kk : ∀ (H1 : Heap) (locs1 : List Loc), wd D A (va_up M a (some (.inr (ci, fs.set k v)))) H0 H1 locs1 → W p l e R s m args below meth c H1 locs1 cells slots Q (F0 m (pc + 3) ls rest)) : W p l e R s m args below meth c H locs cells slots Q (F0 m pc ls (v :: .ref a :: rest)) := by
  obtain ⟨⟨hx, hb, hml, hown, hts⟩, hK⟩ := C
  obtain ⟨L, f, q0, hf, hP, hD, hq, hset⟩ := hW.at hM
  refine va_put hx hb hts hin ty0 hty hnm hown hK hP hD hW.2.1 q0 hq hc k hk (hts _ hlk) (fun x h => by rw [href]; exact h) hfin (hty k hk) hn hfit hl hdg (fun H1 locs1 h1 h2 h3 => kk H1 locs1 ⟨hW.1, h3, L, _, (hset _).2, ?_, ?_⟩)
  · rw [← (hset _).1]; exact h1
  · rw [← (hset _).1]; exact h2
theorem w_putF (C : kx D cs p m c cc nL s args own) (hW : wd D A M H0 H locs) {Cn ref : String} {T : u_T} {N ci index : Nat} {fs : List Value} (hM : M a = some (.inr (ci, fs))) (hc : vwCl[ci]? = some (Cn, T, N)) (hin : ∀ w ∈ u_ws Cn T N, w ∈ tt) (ty0 : Nat → FieldType) (hty : ∀ k, k < N → parseFieldDescriptor (T k).2.2.1 = some (ty0 k)) (hnm : ∀ a, a < N → ∀ b, b < N → a ≠ b → (T a).2.1 ≠ (T b).2.1) (k : Nat) (hk : k < N) (hlk : Cond.fieldLink own index ref (T k).2.1 (T k).2.2.1 ∈ tt) (href : ref = (T k).1) (hfin : (T k).2.2.2 = true) (hini : meth.name = "<init>") (hdecl : (T k).1 = own) {v : Value} (hn : narrow (ty0 k) v = v) (hfit : fits (ty0 k) v = true) (hl : k < fs.length) (hdg : decode cc pc = .ok (.putfield index, 3)) (kk : ∀ (H1 : Heap) (locs1 : List Loc), wd D A (va_up M a (some (.inr (ci, fs.set k v)))) H0 H1 locs1 → W p l e R s m args below meth c H1 locs1 cells slots Q (F0 m (pc + 3) ls rest)) : W p l e R s m args below meth c H locs cells slots Q (F0 m pc ls (v :: .ref a :: rest)) := by
  obtain ⟨⟨hx, hb, hml, hown, hts⟩, hK⟩ := C
  obtain ⟨L, f, q0, hf, hP, hD, hq, hset⟩ := hW.at hM
  refine va_putF hx hb hts hin ty0 hty hnm hown hK hP hD hW.2.1 q0 hq hc k hk (hts _ hlk) (fun x h => by rw [href]; exact h) hfin hini hdecl (hty k hk) hn hfit hl hdg (fun H1 locs1 h1 h2 h3 => kk H1 locs1 ⟨hW.1, h3, L, _, (hset _).2, ?_, ?_⟩)
  · rw [← (hset _).1]; exact h1
  · rw [← (hset _).1]; exact h2
theorem w_iast (C : kx D cs p m c cc nL s args own) (hW : wd D A M H0 H locs) {n : Nat} {f : Nat → Int32} (hM : M a = some (.inl (cs 0, n, .inl f))) {i x : Int32} (hin : vp_in i n) (hdg : decode cc pc = .ok (.iastore, 1)) (kk : ∀ (H1 : Heap) (locs1 : List Loc), wd D A (va_up M a (some (.inl (cs 0, n, .inl (upd f i.toNatClampNeg x))))) H0 H1 locs1 → W p l e R s m args below meth c H1 locs1 cells slots Q (F0 m (pc + 1) ls rest)) : W p l e R s m args below meth c H locs cells slots Q (F0 m pc ls (.int x :: .int i :: .ref a :: rest)) := by
  obtain ⟨L, f, q0, hf, hP, hD, hq, hset⟩ := hW.at hM
  refine va_iast C.1.1 C.1.2.1 C.2 hP hD hW.2.1 q0 0 hq rfl hin hdg (fun H1 locs1 h1 h2 h3 => kk H1 locs1 ⟨hW.1, h3, L, _, (hset _).2, ?_, ?_⟩)
  · rw [← (hset _).1]; exact h1
  · rw [← (hset _).1]; exact h2
theorem w_last (C : kx D cs p m c cc nL s args own) (hW : wd D A M H0 H locs) {n : Nat} {f : Nat → Int64} (hM : M a = some (.inl (cs 1, n, .inr (.inl f)))) {i : Int32} {x : Int64} (hin : vp_in i n) (hdg : decode cc pc = .ok (.lastore, 1)) (kk : ∀ (H1 : Heap) (locs1 : List Loc), wd D A (va_up M a (some (.inl (cs 1, n, .inr (.inl (vp_updL f i.toNatClampNeg x)))))) H0 H1 locs1 → W p l e R s m args below meth c H1 locs1 cells slots Q (F0 m (pc + 1) ls rest)) : W p l e R s m args below meth c H locs cells slots Q (F0 m pc ls (.long x :: .int i :: .ref a :: rest)) := by
  obtain ⟨L, f, q0, hf, hP, hD, hq, hset⟩ := hW.at hM
  refine va_last C.1.1 C.1.2.1 C.2 hP hD hW.2.1 q0 1 hq rfl hin hdg (fun H1 locs1 h1 h2 h3 => kk H1 locs1 ⟨hW.1, h3, L, _, (hset _).2, ?_, ?_⟩)
  · rw [← (hset _).1]; exact h1
  · rw [← (hset _).1]; exact h2
theorem w_zast (C : kx D cs p m c cc nL s args own) (hW : wd D A M H0 H locs) {n : Nat} {f : Nat → Int32} (hM : M a = some (.inl (cs 2, n, .inl f))) {i x : Int32} (hx : vp_nar .boolean x = x) (hin : vp_in i n) (hdg : decode cc pc = .ok (.bastore, 1)) (kk : ∀ (H1 : Heap) (locs1 : List Loc), wd D A (va_up M a (some (.inl (cs 2, n, .inl (upd f i.toNatClampNeg x))))) H0 H1 locs1 → W p l e R s m args below meth c H1 locs1 cells slots Q (F0 m (pc + 1) ls rest)) : W p l e R s m args below meth c H locs cells slots Q (F0 m pc ls (.int x :: .int i :: .ref a :: rest)) := by
  obtain ⟨L, f, q0, hf, hP, hD, hq, hset⟩ := hW.at hM
  refine va_zast C.1.1 C.1.2.1 C.2 hP hD hW.2.1 q0 2 hq rfl hin hdg (fun H1 locs1 h1 h2 h3 => ?_)
  rw [hx] at h1 h2
  refine kk H1 locs1 ⟨hW.1, h3, L, _, (hset _).2, ?_, ?_⟩
  · rw [← (hset _).1]; exact h1
  · rw [← (hset _).1]; exact h2
theorem w_aast (C : kx D cs p m c cc nL s args own) (hW : wd D A M H0 H locs) (t0 ci : Nat) {cA : ClassId} {r : vw_C} {n v : Nat} {vs : List Value} {f : Nat → Option Nat} (hM : M a = some (.inl (cA, n, .inr (.inr (.inr (.inr f)))))) (ht : (tyl cs)[t0]? = some (cA, .object r.1)) (hv : M v = some (.inr (ci, vs))) (hc : vwCl[ci]? = some r) {i : Int32} (hin : vp_in i n) (hdg : decode cc pc = .ok (.aastore, 1)) (kk : ∀ (H1 : Heap) (locs1 : List Loc), wd D A (va_up M a (some (.inl (cA, n, .inr (.inr (.inr (.inr (va_up f i.toNatClampNeg (some v))))))))) H0 H1 locs1 → W p l e R s m args below meth c H1 locs1 cells slots Q (F0 m (pc + 1) ls rest)) : W p l e R s m args below meth c H locs cells slots Q (F0 m pc ls (.ref v :: .int i :: .ref a :: rest)) := by
  obtain ⟨L, f', q0, hf, hP, hD, hq, hset⟩ := hW.at hM
  obtain ⟨h1, h2⟩ := (hf v _).mp hv
  obtain ⟨qk, hqk⟩ := va_pl_get (X := []) (f := f') h1
  rw [List.nil_append, h2] at hqk
  refine va_astq C.1.1 C.1.2.1 C.2 hP hD hW.2.1 q0 t0 qk ci hq ht hqk hc hin hdg (fun H1 locs1 h1 h2 h3 => kk H1 locs1 ⟨hW.1, h3, L, _, (hset _).2, ?_, ?_⟩)
  · rw [← (hset _).1]; exact h1
  · rw [← (hset _).1]; exact h2
/-- a new cell comes to a world -/
theorem wd.add {D : va_G} {A : Nat → Prop} {M : wM} {H0 H H1 : Heap} {locs locs1 : List Loc} (hW : wd D A M H0 H locs) {L : List Nat} {f : Nat → va_E} (hf : ∀ a e, M a = some e ↔ (a ∈ L ∧ f a = e)) {q : Nat} {e : va_E} (h1 : va_P D vwCl (va_pl L f ++ [(q, e)]) H1) (h2 : va_D A (va_pl L f ++ [(q, e)])) (h3 : va_S A H0 H1 locs1) : M q = none ∧ wd D A (va_up M q (some e)) H0 H1 locs1 := by
  have hq : q ∉ L := fun h => by
    obtain ⟨k, hk⟩ := va_pl_get (X := []) (f := f) h
    rw [List.nil_append] at hk
    have hl := (List.getElem?_eq_some_iff.mp hk).1
    have := h2.1 k (va_pl L f).length (q, f q) (q, e) (by rw [List.getElem?_append_left hl]; exact hk) (by rw [List.getElem?_append_right (Nat.le_refl _), Nat.sub_self]; rfl) rfl
    omega
  refine ⟨?_, hW.1, h3, L ++ [q], va_up f q e, new_iff hf e, ?_, ?_⟩
  · cases hm : M q with
    | none => rfl
    | some x => exact absurd ((hf q x).mp hm).1 hq
  · rw [← va_pl_push hq]; exact h1
  · rw [← va_pl_push hq]; exact h2
theorem w_new (C : kx D cs p m c cc nL s args own) (hW : wd D A M H0 H locs) {Cn : String} {T : u_T} {N ci index : Nat} (hc : vwCl[ci]? = some (Cn, T, N)) (hin : ∀ w ∈ u_ws Cn T N, w ∈ tt) (ty : Nat → FieldType) (hty : ∀ k, k < N → parseFieldDescriptor (T k).2.2.1 = some (ty k)) (hcl : Cond.classLink own index Cn ∈ tt) (hinst : Cond.instantiable Cn N ∈ tt) (hini : Cond.initialized Cn ∈ tt) {fs : List Value} (hfs : ∀ j, j < N → defaultValue (ty j) = vp_V fs j) (hcells : cells + 1 ≤ R.cells) (hslots : slots + N ≤ R.slots) (hdg : decode cc pc = .ok (.new index, 3)) (kk : ∀ (q : Nat) (H1 : Heap), M q = none → wd D A (va_up M q (some (.inr (ci, fs)))) H0 H1 locs → W p l e R s m args below meth c H1 locs (cells + 1) (slots + N) Q (F0 m (pc + 3) ls (.ref q :: rest))) : W p l e R s m args below meth c H locs cells slots Q (F0 m pc ls rest) := by
  obtain ⟨⟨hx, hb, hml, hown, hts⟩, hK⟩ := C
  obtain ⟨L, f, hf, hP, hD⟩ := hW.2.2
  refine va_new hx hb hts hin ty hty hown (hts _ hcl) (hts _ hinst) (hts _ hini) hK hP hD hW.2.1 hW.1 hc hfs hcells hslots hdg (fun q H1 h1 h2 h3 => ?_)
  obtain ⟨h4, h5⟩ := hW.add hf h1 h2 h3
  exact kk q H1 h4 h5
theorem w_newa (C : kx D cs p m c cc nL s args own) (hW : wd D A M H0 H locs) {atype : ArrayType} {ty : FieldType} (t0 : Nat) (ht : (tyl cs)[t0]? = some (cs t0, ty)) (hra : ∀ (U : State) (cA : ClassId), va_RA U cA ty → U.vm.findClass ("[" ++ ty.toString) = some cA) (harr : Cond.arrayClass (newarray.typeOf atype) ∈ tt) (hty : newarray.typeOf atype = ty) {n : Int32} {N' : Nat} {a0 : vp_A} (ha : ∀ cA : ClassId, vp_cell cA a0 = arrV cA N' (fun _ => defaultValue ty)) (hn : ¬ n < 0) (hN : n.toNatClampNeg = N') (hbytes : N' * componentBytes ty ≤ 536870912) (hcells : cells + 1 ≤ R.cells) (hslots : slots + N' ≤ R.slots) (hdg : decode cc pc = .ok (.newarray atype, 2)) (kk : ∀ (q : Nat) (H1 : Heap), M q = none → wd D A (va_up M q (some (.inl (cs t0, a0)))) H0 H1 locs → W p l e R s m args below meth c H1 locs (cells + 1) (slots + N') Q (F0 m (pc + 2) ls (.ref q :: rest))) : W p l e R s m args below meth c H locs cells slots Q (F0 m pc ls (.int n :: rest)) := by
  obtain ⟨⟨hx, hb, hml, hown, hts⟩, hK⟩ := C
  obtain ⟨L, f, hf, hP, hD⟩ := hW.2.2
  refine va_newa hx hb (hts _ harr) hty hK hP hD hW.2.1 hW.1 ha hn hN hbytes hcells hslots hdg (fun q cA H1 h0 h1 h2 h3 => ?_)
  have e1 := hra s cA (h0.2 (tyl cs).length (cA, ty) (by rw [List.getElem?_append_right (Nat.le_refl _), Nat.sub_self]; rfl)).2
  have e2 := hra s (cs t0) (hK.2 t0 _ ht).2
  have e3 : cA = cs t0 := Option.some.inj (e1.symm.trans e2)
  subst e3
  obtain ⟨h4, h5⟩ := hW.add hf h1 h2 h3
  exact kk q H1 h4 h5
theorem w_newq (C : kx D cs p m c cc nL s args own) (hW : wd D A M H0 H locs) {Cn : String} {index : Nat} (t0 : Nat) (ht : (tyl cs)[t0]? = some (cs t0, .object Cn)) (hclink : Cond.classLink own index Cn ∈ tt) (hover : va_AO Cn s) {n : Int32} {N' : Nat} (hn : ¬ n < 0) (hN : n.toNatClampNeg = N') (hbytes : N' * 4 ≤ 536870912) (hcells : cells + 1 ≤ R.cells) (hslots : slots + N' ≤ R.slots) (hdg : decode cc pc = .ok (.anewarray index, 3)) (kk : ∀ (q : Nat) (H1 : Heap), M q = none → wd D A (va_up M q (some (.inl (cs t0, N', .inr (.inr (.inr (.inr (fun _ => none)))))))) H0 H1 locs → W p l e R s m args below meth c H1 locs (cells + 1) (slots + N') Q (F0 m (pc + 3) ls (.ref q :: rest))) : W p l e R s m args below meth c H locs cells slots Q (F0 m pc ls (.int n :: rest)) := by
  obtain ⟨⟨hx, hb, hml, hown, hts⟩, hK⟩ := C
  obtain ⟨L, f, hf, hP, hD⟩ := hW.2.2
  refine va_newq hx hb hown (hts _ hclink) hover hK hP hD hW.2.1 hW.1 hn hN hbytes hcells hslots hdg (fun q cA H1 h0 h1 h2 h3 => ?_)
  obtain ⟨-, -, -, -, -, e1⟩ := (h0.2 (tyl cs).length (cA, .object Cn) (by rw [List.getElem?_append_right (Nat.le_refl _), Nat.sub_self]; rfl)).2
  obtain ⟨-, -, -, -, -, e2⟩ := (hK.2 t0 _ ht).2
  have e3 : cA = cs t0 := Option.some.inj (e1.symm.trans e2)
  subst e3
  obtain ⟨h4, h5⟩ := hW.add hf h1 h2 h3
  exact kk q H1 h4 h5
end RD
/-- a method that writes nothing: its start -/
def roP (D : va_G) (cs : Nat → ClassId) (M : wM) (av : List Value) : Array Value → State → Prop := va_Pc av (fun U => va_K D vwCl (tyl cs) U ∧ rd D M U.heap)
/-- a method that writes: its start -/
def wrP (D : va_G) (cs : Nat → ClassId) (A : Nat → Prop) (M : wM) (av : List Value) : Array Value → State → Prop := va_Pc av (fun U => va_K D vwCl (tyl cs) U ∧ wd D A M U.heap U.heap [])
/-- the world behind it -/
def wrB (D : va_G) (A : Nat → Prop) (M : wM) (t : State) : Prop := wd D A M t.heap t.heap []
def noA : Nat → Prop := fun _ => False
/-- an answer that is a reference or null, nothing written -/
def roQ (post : Option Nat → Prop) : Array Value → State → Outcome → State → Prop := va_Sq post
/-- a method's words -/
abbrev mw (y : MethodName) (bytes : ByteArray) (maxL : Nat) (ret : Option FieldType) : List Cond := .code y bytes maxL ret :: tt
theorem ro_met {l : Launch} {D : va_G} {cs : Nat → ClassId} {M : wM} {y : MethodName} {cc : ByteArray} {nL : Nat} {ret : Option FieldType} {rm : Room} {av : List Value} {Qc : Array Value → State → Outcome → State → Prop} (hy : plainName y.cls = true) (hlen : (lg_sl av).length ≤ nL)
    (body : ∀ (p : Program) (e : Env) (s : State) (m : MethodId) (below : List Frame) (meth : Method) (c : Code) (ls : Array Slot), kx D cs p m c cc nL s av.toArray y.cls → rd D M s.heap → meth.sig.returnType = ret → meth.locks = false → lv_has ls nL (lv_args 0 av) → W p l e rm s m av.toArray below meth c s.heap [] 0 0 (MQ below Qc av.toArray s 0 0 noA) (F0 m 0 ls [])) : Met l y (mw y cc nL ret) rm (roP D cs M av) Qc 0 0 noA := by
  refine Met.ofW (cc := cc) (maxL := nL) (ret := ret) hy rfl ?_
  intro p e s m args below meth c s₁ B hml hv
  obtain ⟨rfl, hK, hR⟩ := hv
  have hts := atoms_spec (ws := mw y cc nL ret) B.pre
  have hown : s.vm.findClass y.cls = some m.cls := findClass_of_methodNamed B.named
  have hl := lv_entry av (n := nL) hlen
  rw [lg_entry_eq]
  exact body p e s m below meth c _ ⟨⟨B.exec, B.bytes, hml, hown, fun w hw => hts w (List.mem_cons_of_mem _ hw)⟩, hK⟩ hR B.returns B.notSynchronized hl
theorem wr_met {l : Launch} {D : va_G} {cs : Nat → ClassId} {A : Nat → Prop} {M : wM} {y : MethodName} {cc : ByteArray} {nL mc ms : Nat} {ret : Option FieldType} {rm : Room} {av : List Value} {Qc : Array Value → State → Outcome → State → Prop} (hy : plainName y.cls = true) (hlen : (lg_sl av).length ≤ nL)
    (body : ∀ (p : Program) (e : Env) (s : State) (m : MethodId) (below : List Frame) (meth : Method) (c : Code) (ls : Array Slot), kx D cs p m c cc nL s av.toArray y.cls → wd D A M s.heap s.heap [] → meth.sig.returnType = ret → meth.locks = false → meth.name = y.name → lv_has ls nL (lv_args 0 av) → W p l e rm s m av.toArray below meth c s.heap [] 0 0 (MQ below Qc av.toArray s mc ms A) (F0 m 0 ls [])) : Met l y (mw y cc nL ret) rm (wrP D cs A M av) Qc mc ms A := by
  refine Met.ofW (cc := cc) (maxL := nL) (ret := ret) hy rfl ?_
  intro p e s m args below meth c s₁ B hml hv
  obtain ⟨rfl, hK, hR⟩ := hv
  have hts := atoms_spec (ws := mw y cc nL ret) B.pre
  have hown : s.vm.findClass y.cls = some m.cls := findClass_of_methodNamed B.named
  have hl := lv_entry av (n := nL) hlen
  rw [lg_entry_eq]
  exact body p e s m below meth c _ ⟨⟨B.exec, B.bytes, hml, hown, fun w hw => hts w (List.mem_cons_of_mem _ hw)⟩, hK⟩ hR B.returns B.notSynchronized (name_of_methodNamed B.named B.method).1 hl
/-- what a call's place needs: its words -/
def mG (own : String) (index : Nat) (y : MethodName) (bytes : ByteArray) (maxL : Nat) (ret : Option FieldType) (n : Nat) : Prop := (Cond.methodLink own index y ∈ tt ∧ Cond.initialized y.cls ∈ tt ∧ Cond.code y bytes maxL ret ∈ tt) ∧ (y.cls ≠ "java/lang/invoke/MethodHandle" ∧ y.cls ≠ "java/lang/invoke/VarHandle" ∧ (parseMethodDescriptor y.desc).map (fun d => d.parameters.length) = some n)
def mGV (own : String) (index : Nat) (y : MethodName) (bytes : ByteArray) (maxL : Nat) (ret : Option FieldType) (n : Nat) : Prop := mG own index y bytes maxL ret n ∧ Cond.instanceMethod y ∈ tt ∧ Cond.selects y.cls y y ∈ tt
def mGS (own : String) (index : Nat) (y : MethodName) (bytes : ByteArray) (maxL : Nat) (ret : Option FieldType) (n : Nat) : Prop := mG own index y bytes maxL ret n ∧ Cond.static y ∈ tt
def mGI (own : String) (index : Nat) (y : MethodName) (bytes : ByteArray) (maxL : Nat) (n : Nat) : Prop := mG own index y bytes maxL none n ∧ y.name = "<init>" ∧ Cond.instanceMethod y ∈ tt
/-- the room that a call needs -/
def mR (R rm : Room) (maxL mc ms : Nat) : Prop := rm.cells = mc ∧ rm.slots = ms ∧ rm.frames + 1 ≤ R.frames ∧ 8 + (maxL + 11) + rm.locals ≤ R.locals
theorem gi_mw {y : MethodName} {bytes : ByteArray} {maxL : Nat} {ret : Option FieldType} (h : Cond.code y bytes maxL ret ∈ tt) : GoodIn tt (mw y bytes maxL ret) := fun w hw => by
  have hm : w ∈ tt := (List.mem_cons.mp hw).elim (fun e => by rw [e]; exact h) id
  exact ⟨hm, (tt_good w hm).2⟩
theorem cb_of {R : Room} {s : State} {args : Array Value} {own : String} {index maxL mc ms n : Nat} {y : MethodName} {bytes : ByteArray} {ret : Option FieldType} {rm : Room} (ht : ∀ w ∈ tt, w.before args s = true) (g : mG own index y bytes maxL ret n) (hR : mR R rm maxL mc ms) : CallB R s args own index y bytes maxL ret (mw y bytes maxL ret) rm mc ms n :=
  callB_of n ht (gi_mw g.1.2.2) rfl hR.1 hR.2.1 (ht _ g.1.2.1) (ht _ g.1.1) g.2 hR.2.2
theorem ro_blind {D : va_G} {cs : Nat → ClassId} {M : wM} {av : List Value} : FrameBlind (roP D cs M av) := fun a U g mk q => by
  obtain ⟨q0, q1, q2⟩ := q
  exact ⟨q0, va_K.moved (u := U) (U := U.calling g mk a) (Vm.Alike.refl U.vm) q1, q2⟩
theorem wr_blind {D : va_G} {cs : Nat → ClassId} {A : Nat → Prop} {M : wM} {av : List Value} : FrameBlind (wrP D cs A M av) := fun a U g mk q => by
  obtain ⟨q0, q1, q2⟩ := q
  exact ⟨q0, va_K.moved (u := U) (U := U.calling g mk a) (Vm.Alike.refl U.vm) q1, q2⟩
section CALLS
variable {p : Program} {l : Launch} {e : Env} {R : Room} {s : State} {m : MethodId} {args : Array Value} {below : List Frame} {meth : Method} {c : Code} {H : Heap} {locs : List Loc} {cells slots : Nat} {Q : State → Prop}
variable {cc : ByteArray} {pc nL : Nat} {ls : Array Slot} {rest st0 : List Value} {D : va_G} {cs : Nat → ClassId} {A : Nat → Prop} {M : wM} {own : String}
variable {y : MethodName} {bytes : ByteArray} {maxL n index mc ms : Nat} {ret : Option FieldType} {rm : Room} {Qc : Array Value → State → Outcome → State → Prop} {As : List Value} {b ci : Nat} {fs : List Value} {rc : vw_C}
theorem ro_goI {a : Array Value} {post : Int32 → Prop} (hr : va_Run p l e R s m args below meth c H locs cells slots 0 0 (F0 m pc ls st0) rest (vp_Si post a) noA) (kk : ∀ r : Int32, post r → W p l e R s m args below meth c H locs cells slots Q (F0 m (pc + 3) ls (.int r :: rest))) : W p l e R s m args below meth c H locs cells slots Q (F0 m pc ls st0) := by
  intro T hT X
  obtain ⟨v, st₀, t, T', L, h0, X', hL, e1, e2, ⟨r, hv, hp, hh⟩, st⟩ := hr T hT X
  cases hv
  have hLn : L = [] := by
    cases L with
    | nil => rfl
    | cons x xs => exact absurd (hL x List.mem_cons_self) id
  subst hLn
  rw [List.append_nil, Nat.add_zero, Nat.add_zero] at X'
  obtain ⟨t2, a1, b1⟩ := kk r hp T' (by rw [e1, hh, h0]) X'
  exact ⟨t2, st t2 a1, b1⟩
theorem ro_goL {a : Array Value} {post : Int64 → Prop} (hr : va_Run p l e R s m args below meth c H locs cells slots 0 0 (F0 m pc ls st0) rest (vp_Sl post a) noA) (kk : ∀ r : Int64, post r → W p l e R s m args below meth c H locs cells slots Q (F0 m (pc + 3) ls (.long r :: rest))) : W p l e R s m args below meth c H locs cells slots Q (F0 m pc ls st0) := by
  intro T hT X
  obtain ⟨v, st₀, t, T', L, h0, X', hL, e1, e2, ⟨r, hv, hp, hh⟩, st⟩ := hr T hT X
  cases hv
  have hLn : L = [] := by
    cases L with
    | nil => rfl
    | cons x xs => exact absurd (hL x List.mem_cons_self) id
  subst hLn
  rw [List.append_nil, Nat.add_zero, Nat.add_zero] at X'
  obtain ⟨t2, a1, b1⟩ := kk r hp T' (by rw [e1, hh, h0]) X'
  exact ⟨t2, st t2 a1, b1⟩
theorem ro_goQ {a : Array Value} {post : Option Nat → Prop} (hr : va_Run p l e R s m args below meth c H locs cells slots 0 0 (F0 m pc ls st0) rest (va_Sq post a) noA) (kk : ∀ r : Option Nat, post r → W p l e R s m args below meth c H locs cells slots Q (F0 m (pc + 3) ls (va_rf r :: rest))) : W p l e R s m args below meth c H locs cells slots Q (F0 m pc ls st0) := by
  intro T hT X
  obtain ⟨v, st₀, t, T', L, h0, X', hL, e1, e2, ⟨r, hv, hp, hh⟩, st⟩ := hr T hT X
  cases hv
  have hLn : L = [] := by
    cases L with
    | nil => rfl
    | cons x xs => exact absurd (hL x List.mem_cons_self) id
  subst hLn
  rw [List.append_nil, Nat.add_zero, Nat.add_zero] at X'
  obtain ⟨t2, a1, b1⟩ := kk r hp T' (by rw [e1, hh, h0]) X'
  exact ⟨t2, st t2 a1, b1⟩
/-- a call of an instance method that writes nothing -/
theorem ro_V (C : kx D cs p m c cc nL s args own) (hR : rd D M H) (g : mGV own index y bytes maxL ret n) (hM : Met l y (mw y bytes maxL ret) rm (roP D cs M (.ref b :: As)) Qc 0 0 noA) (hb : M b = some (.inr (ci, fs))) (hc : vwCl[ci]? = some rc) (hcn : rc.1 = y.cls) (hr : mR R rm maxL 0 0) (hn : As.length = n) (hsz : ls.size = nL) (hst : st0 = As.reverse ++ .ref b :: rest) (hcat : (rest.map fun v => v.category).sum ≤ 8) (hdg : decode cc pc = .ok (.invokevirtual index, 3)) (hf : cells + 0 ≤ R.cells ∧ slots + 0 ≤ R.slots) : va_Run p l e R s m args below meth c H locs cells slots 0 0 (F0 m pc ls st0) rest (Qc (Value.ref b :: As).toArray) noA := by
  obtain ⟨cell, h1, h2, h3⟩ := va_recv (q0 := 0) C.2 (hR.one hb) hc rfl
  exact va_runV (C := y.cls) C.1 hM ⟨cb_of C.1.2.2.2.2 g.1 hr, C.1.2.2.2.2 _ g.2.1, C.1.2.2.2.2 _ g.2.2⟩ ⟨ro_blind, ⟨cell, h1, h2, by rw [← hcn]; exact h3⟩, fun U hU hW => ⟨rfl, va_K.moved hW.alike C.2, by rw [hU]; exact hR⟩⟩ rfl hn hsz hst (lv_room hcat) hdg hf
/-- a call of a static method that writes nothing -/
theorem ro_S (C : kx D cs p m c cc nL s args own) (hR : rd D M H) (g : mGS own index y bytes maxL ret n) (hM : Met l y (mw y bytes maxL ret) rm (roP D cs M As) Qc 0 0 noA) (hr : mR R rm maxL 0 0) (hn : As.length = n) (hsz : ls.size = nL) (hst : st0 = As.reverse ++ rest) (hcat : (rest.map fun v => v.category).sum ≤ 8) (hdg : decode cc pc = .ok (.invokestatic index, 3)) (hf : cells + 0 ≤ R.cells ∧ slots + 0 ≤ R.slots) : va_Run p l e R s m args below meth c H locs cells slots 0 0 (F0 m pc ls st0) rest (Qc As.toArray) noA :=
  va_runS C.1 hM ⟨cb_of C.1.2.2.2.2 g.1 hr, C.1.2.2.2.2 _ g.2⟩ ⟨ro_blind, fun U hU hW => ⟨rfl, va_K.moved hW.alike C.2, by rw [hU]; exact hR⟩⟩ rfl hn hsz hst (lv_room hcat) hdg hf
/-- calls of methods that write -/
theorem wr_V (C : kx D cs p m c cc nL s args own) (hW : wd D A M s.heap H locs) (g : mGV own index y bytes maxL ret n) (hM : Met l y (mw y bytes maxL ret) rm (wrP D cs A M (.ref b :: As)) Qc mc ms A) (hb : M b = some (.inr (ci, fs))) (hc : vwCl[ci]? = some rc) (hcn : rc.1 = y.cls) (hr : mR R rm maxL mc ms) (hn : As.length = n) (hsz : ls.size = nL) (hst : st0 = As.reverse ++ .ref b :: rest) (hcat : (rest.map fun v => v.category).sum ≤ 8) (hdg : decode cc pc = .ok (.invokevirtual index, 3)) (hf : cells + mc ≤ R.cells ∧ slots + ms ≤ R.slots) : va_Run p l e R s m args below meth c H locs cells slots mc ms (F0 m pc ls st0) rest (Qc (Value.ref b :: As).toArray) A := by
  obtain ⟨cell, h1, h2, h3⟩ := va_recv (q0 := 0) C.2 (hW.rd.one hb) hc rfl
  exact va_runV (C := y.cls) C.1 hM ⟨cb_of C.1.2.2.2.2 g.1 hr, C.1.2.2.2.2 _ g.2.1, C.1.2.2.2.2 _ g.2.2⟩ ⟨wr_blind, ⟨cell, h1, h2, by rw [← hcn]; exact h3⟩, fun U hU hW1 => ⟨rfl, va_K.moved hW1.alike C.2, by rw [hU]; exact hW.enter⟩⟩ rfl hn hsz hst (lv_room hcat) hdg hf
theorem wr_S (C : kx D cs p m c cc nL s args own) (hW : wd D A M s.heap H locs) (g : mGS own index y bytes maxL ret n) (hM : Met l y (mw y bytes maxL ret) rm (wrP D cs A M As) Qc mc ms A) (hr : mR R rm maxL mc ms) (hn : As.length = n) (hsz : ls.size = nL) (hst : st0 = As.reverse ++ rest) (hcat : (rest.map fun v => v.category).sum ≤ 8) (hdg : decode cc pc = .ok (.invokestatic index, 3)) (hf : cells + mc ≤ R.cells ∧ slots + ms ≤ R.slots) : va_Run p l e R s m args below meth c H locs cells slots mc ms (F0 m pc ls st0) rest (Qc As.toArray) A :=
  va_runS C.1 hM ⟨cb_of C.1.2.2.2.2 g.1 hr, C.1.2.2.2.2 _ g.2⟩ ⟨wr_blind, fun U hU hW1 => ⟨rfl, va_K.moved hW1.alike C.2, by rw [hU]; exact hW.enter⟩⟩ rfl hn hsz hst (lv_room hcat) hdg hf
theorem wr_I (C : kx D cs p m c cc nL s args own) (hW : wd D A M s.heap H locs) (g : mGI own index y bytes maxL n) (hM : Met l y (mw y bytes maxL none) rm (wrP D cs A M (.ref b :: As)) Qc mc ms A) (hr : mR R rm maxL mc ms) (hn : As.length = n) (hsz : ls.size = nL) (hst : st0 = As.reverse ++ .ref b :: rest) (hcat : (rest.map fun v => v.category).sum ≤ 8) (hdg : decode cc pc = .ok (.invokespecial index, 3)) (hf : cells + mc ≤ R.cells ∧ slots + ms ≤ R.slots) : va_Run p l e R s m args below meth c H locs cells slots mc ms (F0 m pc ls st0) rest (Qc (Value.ref b :: As).toArray) A :=
  va_runI C.1 hM ⟨cb_of C.1.2.2.2.2 g.1 hr, g.2.1, C.1.2.2.2.2 _ g.2.2⟩ ⟨wr_blind, fun U hU hW1 => ⟨rfl, va_K.moved hW1.alike C.2, by rw [hU]; exact hW.enter⟩⟩ rfl hn hsz hst (lv_room hcat) hdg hf
theorem wd.back {D : va_G} {A : Nat → Prop} {M M' : wM} {H0 H H1 : Heap} {locs locs1 : List Loc} (h : wd D A M H0 H locs) {t : State} (ht : t.heap = H1) (hB : wrB D A M' t) (hS : va_S A H0 H1 locs1) : wd D A M' H0 H1 locs1 := by
  obtain ⟨-, -, h2⟩ := hB
  rw [ht] at h2
  exact ⟨h.1, hS, h2⟩
theorem wr_goV {a : Array Value} {post : wM → Prop} (hW : wd D A M s.heap H locs) (hr : va_Run p l e R s m args below meth c H locs cells slots mc ms (F0 m pc ls st0) rest (va_Qv post (wrB D A) A a) A) (kk : ∀ (M' : wM) (H1 : Heap) (locs1 : List Loc), post M' → wd D A M' s.heap H1 locs1 → W p l e R s m args below meth c H1 locs1 (cells + mc) (slots + ms) Q (F0 m (pc + 3) ls rest)) : W p l e R s m args below meth c H locs cells slots Q (F0 m pc ls st0) :=
  va_callv hr hW.2.1 (fun _ _ h => h) (fun _ h => h) (fun u t H1 locs1 ht hvm hp hB hz hk hS => kk u H1 locs1 hp (hW.back ht hB hS))
theorem wr_goI {a : Array Value} {post : Int32 → wM → Prop} (hW : wd D A M s.heap H locs) (hr : va_Run p l e R s m args below meth c H locs cells slots mc ms (F0 m pc ls st0) rest (va_Qi post (wrB D A) A a) A) (kk : ∀ (r : Int32) (M' : wM) (H1 : Heap) (locs1 : List Loc), post r M' → wd D A M' s.heap H1 locs1 → W p l e R s m args below meth c H1 locs1 (cells + mc) (slots + ms) Q (F0 m (pc + 3) ls (.int r :: rest))) : W p l e R s m args below meth c H locs cells slots Q (F0 m pc ls st0) :=
  va_calli hr hW.2.1 (fun _ _ h => h) (fun _ h => h) (fun r u t H1 locs1 ht hvm hp hB hz hk hS => kk r u H1 locs1 hp (hW.back ht hB hS))
/-- a reference comes back: post speaks of its address and of the world -/
def wrQr (D : va_G) (A : Nat → Prop) (post : Nat → wM → Prop) : Array Value → State → Outcome → State → Prop := va_Qr (S := wM) (fun _ => True) (fun M' ra t => post ra M' ∧ wrB D A M' t) A
theorem wr_goR {a : Array Value} {post : Nat → wM → Prop} (hW : wd D A M s.heap H locs) (hr : va_Run p l e R s m args below meth c H locs cells slots mc ms (F0 m pc ls st0) rest (wrQr D A post a) A) (kk : ∀ (ra : Nat) (M' : wM) (H1 : Heap) (locs1 : List Loc), post ra M' → wd D A M' s.heap H1 locs1 → W p l e R s m args below meth c H1 locs1 (cells + mc) (slots + ms) Q (F0 m (pc + 3) ls (.ref ra :: rest))) : W p l e R s m args below meth c H locs cells slots Q (F0 m pc ls st0) :=
  va_callr hr hW.2.1 (fun _ _ h => h) (fun _ h => h) (fun u ra t H1 locs1 ht hvm hp hB hz hk hS => kk ra u H1 locs1 hB.1 (hW.back ht hB.2 hS))
/-- ends of methods that write nothing -/
theorem ro_iret (C : kx D cs p m c cc nL s args own) (hr : meth.sig.returnType = some .int) (hlk : meth.locks = false) {post : Int32 → Prop} {v : Int32} (hp : post v) (hdg : decode cc pc = .ok (.ireturn, 1)) : W p l e R s m args below meth c s.heap [] 0 0 (MQ below (vp_Si post) args s 0 0 noA) (F0 m pc ls [.int v]) :=
  W.iret C.1.1 C.1.2.1 hr (fun t ht _ => ⟨v, rfl, hp, ht⟩) (fun q h => by cases h) hdg hlk
theorem ro_zret (C : kx D cs p m c cc nL s args own) (hr : meth.sig.returnType = some .boolean) (hlk : meth.locks = false) {post : Int32 → Prop} {v : Int32} (hz : narrow .boolean (.int v) = .int v) (hp : post v) (hdg : decode cc pc = .ok (.ireturn, 1)) : W p l e R s m args below meth c s.heap [] 0 0 (MQ below (vp_Si post) args s 0 0 noA) (F0 m pc ls [.int v]) :=
  W.zret C.1.1 C.1.2.1 hr hz (fun t ht _ => ⟨v, rfl, hp, ht⟩) (fun q h => by cases h) hdg hlk
theorem ro_lret (C : kx D cs p m c cc nL s args own) (hr : meth.sig.returnType = some .long) (hlk : meth.locks = false) {post : Int64 → Prop} {v : Int64} (hp : post v) (hdg : decode cc pc = .ok (.lreturn, 1)) : W p l e R s m args below meth c s.heap [] 0 0 (MQ below (vp_Sl post) args s 0 0 noA) (F0 m pc ls [.long v]) :=
  W.lret C.1.1 C.1.2.1 hr (fun t ht _ => ⟨v, rfl, hp, ht⟩) (fun q h => by cases h) hdg hlk
theorem ro_aret (C : kx D cs p m c cc nL s args own) {rt : FieldType} (hr : meth.sig.returnType = some rt) (hrt : (∃ n, rt = .object n) ∨ ∃ t, rt = .array t) (hlk : meth.locks = false) {post : Option Nat → Prop} (v : Option Nat) {w : Value} (hw : w = va_rf v) (hp : post v) (hdg : decode cc pc = .ok (.areturn, 1)) : W p l e R s m args below meth c s.heap [] 0 0 (MQ below (va_Sq post) args s 0 0 noA) (F0 m pc ls [w]) :=
  W.aret C.1.1 C.1.2.1 hr hrt (by rw [hw]; exact va_rf_or v) (fun t ht _ => ⟨v, by rw [hw], hp, ht⟩) (fun q h => by cases h) hdg hlk
/-- ends of methods that write -/
theorem wr_vret (C : kx D cs p m c cc nL s args own) (hW : wd D A M s.heap H locs) (hr : meth.sig.returnType = none) (hlk : meth.locks = false) {post : wM → Prop} (hp : post M) (hdg : decode cc pc = .ok (.return_, 1)) : W p l e R s m args below meth c H locs cells slots (MQ below (va_Qv post (wrB D A) A) args s cells slots A) (F0 m pc ls []) :=
  W.vret C.1.1 C.1.2.1 hr (fun t ht _ => ⟨⟨M, rfl, hp, by unfold wrB; rw [ht]; exact hW.enter⟩, hW.2.1.F ht⟩) hW.2.1.2.2 hdg hlk
theorem wr_iret (C : kx D cs p m c cc nL s args own) (hW : wd D A M s.heap H locs) (hr : meth.sig.returnType = some .int) (hlk : meth.locks = false) {post : Int32 → wM → Prop} {v : Int32} (hp : post v M) (hdg : decode cc pc = .ok (.ireturn, 1)) : W p l e R s m args below meth c H locs cells slots (MQ below (va_Qi post (wrB D A) A) args s cells slots A) (F0 m pc ls [.int v]) :=
  W.iret C.1.1 C.1.2.1 hr (fun t ht _ => ⟨⟨v, M, rfl, hp, by unfold wrB; rw [ht]; exact hW.enter⟩, hW.2.1.F ht⟩) hW.2.1.2.2 hdg hlk
theorem wr_aret (C : kx D cs p m c cc nL s args own) (hW : wd D A M s.heap H locs) {rt : FieldType} (hr : meth.sig.returnType = some rt) (hrt : (∃ n, rt = .object n) ∨ ∃ t, rt = .array t) (hlk : meth.locks = false) {post : Nat → wM → Prop} {v : Nat} (hp : post v M) (hdg : decode cc pc = .ok (.areturn, 1)) : W p l e R s m args below meth c H locs cells slots (MQ below (wrQr D A post) args s cells slots A) (F0 m pc ls [.ref v]) :=
  W.aret C.1.1 C.1.2.1 hr hrt (Or.inr ⟨v, rfl⟩) (fun t ht _ => ⟨⟨M, v, rfl, trivial, hp, by unfold wrB; rw [ht]; exact hW.enter⟩, hW.2.1.F ht⟩) hW.2.1.2.2 hdg hlk
end CALLS

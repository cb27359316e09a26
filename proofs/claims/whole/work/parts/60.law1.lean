def aN (s : State) : Nat → Prop := fun q => s.heap.size ≤ q
/-- the cells of a world in a heap -/
def pool (D : va_G) (A : Nat → Prop) (M : wM) (H : Heap) : Prop := ∃ (L : List Nat) (f : Nat → va_E), (∀ a e, M a = some e ↔ (a ∈ L ∧ f a = e)) ∧ va_P D vwCl (va_pl L f) H ∧ va_D A (va_pl L f)
/-- two worlds side by side -/
def w2 (D : va_G) (A : Nat → Prop) (M N : wM) (H : Heap) : Prop := pool D A M H ∧ pool D A N H ∧ ∀ a e1 e2, M a = some e1 → N a = some e2 → False
theorem w2.symm {D : va_G} {A : Nat → Prop} {M N : wM} {H : Heap} (h : w2 D A M N H) : w2 D A N M H := ⟨h.2.1, h.1, fun a e1 e2 h1 h2 => h.2.2 a e2 e1 h2 h1⟩
theorem pool.rd {D : va_G} {A : Nat → Prop} {M : wM} {H : Heap} (h : pool D A M H) : rd D M H := by
  obtain ⟨L, f, hM, hP, -⟩ := h
  intro a e hae
  obtain ⟨h1, h2⟩ := (hM a e).mp hae
  obtain ⟨k, hk⟩ := va_pl_get (X := []) (f := f) h1
  rw [List.nil_append, h2] at hk
  exact hP k _ hk
theorem pool.lt {D : va_G} {A : Nat → Prop} {M : wM} {H : Heap} (h : pool D A M H) {a : Nat} {e : va_E} (ha : M a = some e) : a < H.size := (h.rd a e ha).lt
theorem pool.inA {D : va_G} {A : Nat → Prop} {M : wM} {H : Heap} (h : pool D A M H) {a : Nat} {e : va_E} (hae : M a = some e) : A a := by
  obtain ⟨L, f, hM, -, hD⟩ := h
  obtain ⟨h1, h2⟩ := (hM a e).mp hae
  obtain ⟨k, hk⟩ := va_pl_get (X := []) (f := f) h1
  rw [List.nil_append] at hk
  exact hD.2 k _ hk
theorem pl_mem {L : List Nat} {f : Nat → va_E} {k : Nat} {q : Nat × va_E} (h : (va_pl L f)[k]? = some q) : q.1 ∈ L ∧ f q.1 = q.2 := by
  have h1 := List.mem_of_getElem? h
  obtain ⟨a, h2, h3⟩ := List.mem_map.mp h1
  subst h3
  exact ⟨h2, rfl⟩
theorem pool.keep {D : va_G} {A : Nat → Prop} {M : wM} {H H1 : Heap} (h : pool D A M H) (hk : ∀ a e, M a = some e → H1[a]? = H[a]?) : pool D A M H1 := by
  obtain ⟨L, f, hM, hP, hD⟩ := h
  refine ⟨L, f, hM, hP.kept (fun k q hq => ?_), hD⟩
  obtain ⟨h1, h2⟩ := pl_mem hq
  exact hk q.1 q.2 ((hM q.1 q.2).mpr ⟨h1, h2⟩)
theorem pool.weak {D : va_G} {A B : Nat → Prop} {M : wM} {H : Heap} (h : pool D A M H) (hAB : ∀ a e, M a = some e → A a → B a) : pool D B M H := by
  obtain ⟨L, f, hM, hP, hD⟩ := h
  refine ⟨L, f, hM, hP, hD.weaken (fun k q hq hA => ?_)⟩
  obtain ⟨h1, h2⟩ := pl_mem hq
  exact hAB q.1 q.2 ((hM q.1 q.2).mpr ⟨h1, h2⟩) hA
/-- the cells that a call may change -/
def aM (M : wM) (sz : Nat) : Nat → Prop := fun q => (∃ e, M q = some e) ∨ sz ≤ q
theorem w2.ent {D : va_G} {A : Nat → Prop} {M N : wM} {H : Heap} (h : w2 D A M N H) : wd D (aM M H.size) M H H [] :=
  ⟨fun q hq => Or.inr hq, va_S.rf, h.1.weak (fun a e ha _ => Or.inl ⟨e, ha⟩)⟩
theorem w2.back {D : va_G} {A : Nat → Prop} {M M1 N : wM} {H H1 : Heap} (h : w2 D A M N H) (hB : wd D (aM M H.size) M1 H1 H1 []) (hk : ∀ q : Nat, q < H.size → ¬ aM M H.size q → H1[q]? = H[q]?) (hA : ∀ q, aM M H.size q → A q) : w2 D A M1 N H1 := by
  obtain ⟨-, -, hp⟩ := hB
  have hp1 : pool D (aM M H.size) M1 H1 := hp
  have ap : ∀ a e2, N a = some e2 → ¬ aM M H.size a := fun a e2 ha z => by
    rcases z with ⟨e, z⟩ | z
    · exact h.2.2 a e e2 z ha
    · have := h.2.1.lt ha
      omega
  refine ⟨hp1.weak (fun a e ha z => hA a z), h.2.1.keep (fun a e ha => hk a (h.2.1.lt ha) (ap a e ha)), fun a e1 e2 h1 h2 => ap a e2 h2 (hp1.inA h1)⟩
theorem w2.free {D : va_G} {s : State} {M N : wM} {H : Heap} {locs : List Loc} (h : w2 D (aN s) M N H) (hS : va_S (aN s) s.heap H locs) : ∀ q, aM M H.size q → aN s q := fun q z => by
  rcases z with ⟨e, z⟩ | z
  · exact h.1.inA z
  · exact Nat.le_trans hS.1 z
section LAWC
variable {p : Program} {l : Launch} {e : Env} {R : Room} {s : State} {m : MethodId} {args : Array Value} {below : List Frame} {meth : Method} {c : Code} {H : Heap} {locs : List Loc} {cells slots : Nat} {Q : State → Prop}
variable {cc : ByteArray} {pc nL : Nat} {ls : Array Slot} {rest st0 : List Value} {D : va_G} {cs : Nat → ClassId} {M N : wM} {own : String}
variable {y : MethodName} {bytes : ByteArray} {maxL n index mc ms : Nat} {ret : Option FieldType} {rm : Room} {As : List Value} {b ci : Nat} {fs : List Value} {rc : vw_C}
/-- a call from the law that writes and answers an int -/
theorem lw_I {post : Int32 → wM → Prop} (C : kx D cs p m c cc nL s args own) (hS : va_S (aN s) s.heap H locs) (h2 : w2 D (aN s) M N H) (g : mGV own index y bytes maxL ret n) (hM : ∀ A, Met l y (mw y bytes maxL ret) rm (wrP D cs A M (.ref b :: As)) (va_Qi post (wrB D A) A) mc ms A) (hb : M b = some (.inr (ci, fs))) (hc : vwCl[ci]? = some rc) (hcn : rc.1 = y.cls) (hr : mR R rm maxL mc ms) (hn : As.length = n) (hsz : ls.size = nL) (hst : st0 = As.reverse ++ .ref b :: rest) (hcat : (rest.map fun v => v.category).sum ≤ 8) (hdg : decode cc pc = .ok (.invokevirtual index, 3)) (hf : cells + mc ≤ R.cells ∧ slots + ms ≤ R.slots) (kk : ∀ (r : Int32) (M1 : wM) (H1 : Heap) (locs1 : List Loc), post r M1 → w2 D (aN s) M1 N H1 → va_S (aN s) s.heap H1 locs1 → W p l e R s m args below meth c H1 locs1 (cells + mc) (slots + ms) Q (F0 m (pc + 3) ls (.int r :: rest))) : W p l e R s m args below meth c H locs cells slots Q (F0 m pc ls st0) := by
  obtain ⟨cell, k1, k2, k3⟩ := va_recv (q0 := 0) C.2 (h2.1.rd.one hb) hc rfl
  have hrun := va_runV (rest := rest) (C := y.cls) (H := H) (locs := locs) (cells := cells) (slots := slots) (l := l) (e := e) (R := R) (below := below) (meth := meth) C.1 (hM (aM M H.size)) ⟨cb_of C.1.2.2.2.2 g.1 hr, C.1.2.2.2.2 _ g.2.1, C.1.2.2.2.2 _ g.2.2⟩ ⟨wr_blind, ⟨cell, k1, k2, by rw [← hcn]; exact k3⟩, fun U hU hW1 => ⟨rfl, va_K.moved hW1.alike C.2, by rw [hU]; exact h2.ent⟩⟩ rfl hn hsz hst (lv_room hcat) hdg hf
  exact va_calli hrun hS (fun q _ h => h2.free hS q h) (fun q h => h2.free hS q h) (fun r u t H1 locs1 ht hvm hp hB hz hk hS1 => kk r u H1 locs1 hp (h2.back (by have hB : wd D (aM M H.size) u t.heap t.heap [] := hB; rw [ht] at hB; exact hB) hk (h2.free hS)) hS1)
/-- a constructor's call from the law -/
theorem lw_V {post : wM → Prop} {Pc : (Nat → Prop) → Array Value → State → Prop} (C : kx D cs p m c cc nL s args own) (hS : va_S (aN s) s.heap H locs) (h2 : w2 D (aN s) M N H) (g : mGI own index y bytes maxL n) (hM : ∀ A, Met l y (mw y bytes maxL none) rm (Pc A) (va_Qv post (wrB D A) A) mc ms A) (hbl : FrameBlind (Pc (aM M H.size))) (hpre : ∀ U : State, U.heap = H → s.vm.Alike U.vm → wd D (aM M H.size) M H H [] → Pc (aM M H.size) (Value.ref b :: As).toArray U) (hr : mR R rm maxL mc ms) (hn : As.length = n) (hsz : ls.size = nL) (hst : st0 = As.reverse ++ .ref b :: rest) (hcat : (rest.map fun v => v.category).sum ≤ 8) (hdg : decode cc pc = .ok (.invokespecial index, 3)) (hf : cells + mc ≤ R.cells ∧ slots + ms ≤ R.slots) (kk : ∀ (M1 : wM) (H1 : Heap) (locs1 : List Loc), post M1 → w2 D (aN s) M1 N H1 → va_S (aN s) s.heap H1 locs1 → W p l e R s m args below meth c H1 locs1 (cells + mc) (slots + ms) Q (F0 m (pc + 3) ls rest)) : W p l e R s m args below meth c H locs cells slots Q (F0 m pc ls st0) := by
  have hrun := va_runI (rest := rest) (H := H) (locs := locs) (cells := cells) (slots := slots) (l := l) (e := e) (R := R) (below := below) (meth := meth) C.1 (hM (aM M H.size)) ⟨cb_of C.1.2.2.2.2 g.1 hr, g.2.1, C.1.2.2.2.2 _ g.2.2⟩ ⟨hbl, fun U hU hW1 => hpre U hU hW1.alike h2.ent⟩ rfl hn hsz hst (lv_room hcat) hdg hf
  exact va_callv hrun hS (fun q _ h => h2.free hS q h) (fun q h => h2.free hS q h) (fun u t H1 locs1 ht hvm hp hB hz hk hS1 => kk u H1 locs1 hp (h2.back (by have hB : wd D (aM M H.size) u t.heap t.heap [] := hB; rw [ht] at hB; exact hB) hk (h2.free hS)) hS1)
end LAWC
/-- the state of the law's loop -/
def LI (D : va_G) (cs : Nat → ClassId) (s : State) (Z X : Nat) (H : Heap) (locs : List Loc) : Prop := ∃ (M N : wM) (lab ad : Nat → Nat) (w : Nat → Int32) (E : Nat → Nat → Nat → Int32) (J : Nat → Nat → Nat) (nn nb nc np : Nat) (NA BA CA PA : Nat → Option Nat) (ad2 : Nat → Nat) (v : Nat → Int32) (F : Nat → Nat → Int32) (G : Nat → Nat → Int64) (nl nm nw : Nat) (fp : Nat → Nat), va_S (aN s) s.heap H locs ∧ w2 D (aN s) M N H ∧ CSx cs lab M Z ad w E J nn nb nc np NA BA CA PA ∧ RS cs N X ad2 v F G ∧ CP w v E J F nl nn nm nw nb nc np fp
/-- what the calls ask -/
theorem CP.asks {w v : Nat → Int32} {E : Nat → Nat → Nat → Int32} {J : Nat → Nat → Nat} {F : Nat → Nat → Int32} {nl nn nm nw nb nc np : Nat} {fp : Nat → Nat} (h : CP w v E J F nl nn nm nw nb nc np fp) : (np ≤ 2 * nc ∧ np ≤ 80 ∧ nb ≤ 52) ∧ (∀ c, c < nc → E 4 c 5 = nI (fp c) ∧ fp c + pcN E J c ≤ np) ∧ (∀ c, c < nc → pcN E J c ≤ 2 ∧ F 24 c = nI (pcN E J c)) ∧ (∀ i, i < nn → E 0 i 1 = nI (E 0 i 1).toNatClampNeg ∧ (E 0 i 1).toNatClampNeg < 4) ∧ (∀ a, a < nn → ∃ la, la < 4 ∧ F 3 a = nI la) := by
  have h2 := h.cv.np2
  have hc := h.cn.2.2
  have hl4 := h.1.2.2
  refine ⟨⟨h2, by omega, ?_⟩, fun c hcn => ⟨(h.cv.1 c hcn).2.2.2.2.2.2.2.2.2.1, ?_⟩, fun c hcn => ⟨(pcN_le E J c).2, (h.cv.1 c hcn).2.2.2.2.2.2.2.2.2.2.1⟩, fun i hi => ?_, fun a ha => ?_⟩
  · obtain ⟨-, -, ⟨-, -, m3⟩, ⟨-, -, d3⟩, -, -, e2, -⟩ := h
    omega
  · have := pcN_le E J c
    have := h.cv.lt hcn (p := pcN E J c - 1) (by omega)
    omega
  · have g := h.nts i hi
    obtain ⟨la, g1, g2⟩ := g.2.2.2.2.2.2.1
    rw [g.2.1, g2, nI_clamp (by omega)]
    exact ⟨rfl, by omega⟩
  · obtain ⟨la, g1, g2⟩ := (h.nts a ha).2.2.2.2.2.2.1
    exact ⟨la, by omega, g2⟩

def wrP2 (D : va_G) (cs : Nat → ClassId) (A : Nat → Prop) (M : wM) (av : List Value) : Array Value → State → Prop := va_Pc av (fun U => va_K D vwCl (tyl cs) U ∧ wd D A M U.heap U.heap [] ∧ va_AO RX0 U ∧ va_AO RX1 U ∧ va_AO RX2 U ∧ va_AO RX3 U)
theorem wr_met2 {l : Launch} {D : va_G} {cs : Nat → ClassId} {A : Nat → Prop} {M : wM} {y : MethodName} {cc : ByteArray} {nL mc ms : Nat} {ret : Option FieldType} {rm : Room} {av : List Value} {Qc : Array Value → State → Outcome → State → Prop} (hy : plainName y.cls = true) (hlen : (lg_sl av).length ≤ nL)
    (body : ∀ (p : Program) (e : Env) (s : State) (m : MethodId) (below : List Frame) (meth : Method) (c : Code) (ls : Array Slot), kx D cs p m c cc nL s av.toArray y.cls → wd D A M s.heap s.heap [] → meth.sig.returnType = ret → meth.locks = false → meth.name = y.name → lv_has ls nL (lv_args 0 av) → (va_AO RX0 s ∧ va_AO RX1 s ∧ va_AO RX2 s ∧ va_AO RX3 s) → W p l e rm s m av.toArray below meth c s.heap [] 0 0 (MQ below Qc av.toArray s mc ms A) (F0 m 0 ls [])) : Met l y (mw y cc nL ret) rm (wrP2 D cs A M av) Qc mc ms A := by
  refine Met.ofW (cc := cc) (maxL := nL) (ret := ret) hy rfl ?_
  intro p e s m args below meth c s₁ B hml hv
  obtain ⟨rfl, hK, hR, hAO⟩ := hv
  have hts := atoms_spec (ws := mw y cc nL ret) B.pre
  have hown : s.vm.findClass y.cls = some m.cls := findClass_of_methodNamed B.named
  have hl := lv_entry av (n := nL) hlen
  rw [lg_entry_eq]
  exact body p e s m below meth c _ ⟨⟨B.exec, B.bytes, hml, hown, fun w hw => hts w (List.mem_cons_of_mem _ hw)⟩, hK⟩ hR B.returns B.notSynchronized (name_of_methodNamed B.named B.method).1 hl hAO
theorem wr_blind2 {D : va_G} {cs : Nat → ClassId} {A : Nat → Prop} {M : wM} {av : List Value} : FrameBlind (wrP2 D cs A M av) := fun a U g mk q => by
  obtain ⟨q0, q1, q2, q3, q4, q5, q6⟩ := q
  have al : U.vm.Alike (U.calling g mk a).vm := Vm.Alike.refl U.vm
  exact ⟨q0, va_K.moved (u := U) (U := U.calling g mk a) al q1, q2, q3.moved al, q4.moved al, q5.moved al, q6.moved al⟩
theorem ini_k {M : wM} {Z q a : Nat} {x y : Option va_E} {ea : va_E} (ha : M a = some ea) (hne : a ≠ Z) (hq : M q = none) : va_up (va_up M q x) Z y a = some ea := by
  rw [va_up_ne _ _ hne]
  exact up_keep ha hq
theorem ini_n {M : wM} {Z q : Nat} {x y : Option va_E} (hne : q ≠ Z) : va_up (va_up M q x) Z y q = x := by rw [va_up_ne _ _ hne, va_up_self]
set_option maxHeartbeats 4000000 in
set_option maxRecDepth 100000 in
theorem c_X4_init (l : Launch) (D : va_G) (cs : Nat → ClassId) (A : Nat → Prop) (M : wM) (Z : Nat) (hZ : M Z = some (.inr (4, [.null, .null, .null, .null, .null, .null, .int 0, .int 0, .int 0, .int 0, .int 0, .int 0]))) : Met l yX4_init (mw yX4_init cX4_init 1 none) { frames := 3, cells := 8, slots := 251, locals := 62 } (wrP2 D cs A M [.ref Z]) (va_Qv (fun M' => ∃ lab ad w E J NA BA CA PA, CSx cs lab M' Z ad w E J 0 0 0 0 NA BA CA PA ∧ w = xZero (fun _ => 0)) (wrB D A) A) 8 251 A := by
  refine wr_met2 rfl (Nat.le_of_ble_eq_true rfl) ?_
  intro p e s m below meth c ls C hW hr hlk hini hl hAO
  have C : kx D cs p m c cX4_init 1 s _ RX4 := C
  have hx := C.1.1
  have hb := C.1.2.1
  have hl : lv_has ls 1 [(0, .ref Z)] := hl
  refine lv_aload_n hx hb dX4_init_0 rfl (lv_at hl 0 rfl) ?_
  refine W.objInit hx hb C.1.2.2.2.1 (C.1.2.2.2.2 _ wm_9) (C.1.2.2.2.2 _ wm_10) (C.1.2.2.2.2 _ wm_11) rfl (by rw [C.1.2.2.1]; exact hl.1) rfl dX4_init_1 (Nat.le_of_ble_eq_true rfl) (Nat.le_of_ble_eq_true rfl) ?_
  refine W.eq (g2 := F0 m 4 ls []) rfl ?_
  refine lv_aload_n hx hb dX4_init_4 rfl (lv_at hl 0 rfl) ?_
  refine lv_iconst (v := 4) hx hb dX4_init_5 (by decide) ?_
  refine w_newa (atype := .int) (N' := 4) (a0 := (4, .inl (fun _ => 0))) (ty := .int) C hW 0 rfl (fun _ _ h => h) wm_12 rfl (fun _ => rfl) (by decide) (by rfl) (by decide) (by decide) (by decide) dX4_init_6 (fun q_6 H nq_6 hW => ?_)
  refine pf_X4_9 (fs2 := [.ref q_6, .null, .null, .null, .null, .null, .int 0, .int 0, .int 0, .int 0, .int 0, .int 0]) C hW hini (up_keep hZ nq_6) (Nat.le_of_ble_eq_true rfl) rfl dX4_init_8 (fun H locs hW => ?_)
  have mq_6 : q_6 ≠ Z := (ne_none hZ nq_6).symm
  obtain ⟨M, hZ, hq_6, hW⟩ : ∃ (M : wM), M Z = some (.inr (4, [.ref q_6, .null, .null, .null, .null, .null, .int 0, .int 0, .int 0, .int 0, .int 0, .int 0])) ∧ M q_6 = some (arC cs 4 (fun _ => 0)) ∧ wd D A M s.heap H locs := ⟨_, va_up_self _ _ _, ini_n mq_6, hW⟩
  refine lv_aload_n hx hb dX4_init_11 rfl (lv_at hl 0 rfl) ?_
  refine lv_bipush (v := 60) hx hb dX4_init_12 (by decide) ?_
  refine w_newq (N' := 60) C hW 5 rfl wm_14 hAO.2.2.1 (by decide) rfl (by decide) (by decide) (by decide) dX4_init_14 (fun q_14 H nq_14 hW => ?_)
  refine pf_X4_15 (fs2 := [.ref q_6, .ref q_14, .null, .null, .null, .null, .int 0, .int 0, .int 0, .int 0, .int 0, .int 0]) C hW hini (up_keep hZ nq_14) (Nat.le_of_ble_eq_true rfl) rfl dX4_init_17 (fun H locs hW => ?_)
  have mq_14 : q_14 ≠ Z := (ne_none hZ nq_14).symm
  obtain ⟨M, hZ, hq_6, hq_14, hW⟩ : ∃ (M : wM), M Z = some (.inr (4, [.ref q_6, .ref q_14, .null, .null, .null, .null, .int 0, .int 0, .int 0, .int 0, .int 0, .int 0])) ∧ M q_6 = some (arC cs 4 (fun _ => 0)) ∧ M q_14 = some (rfC (cs 5) 60 (fun _ => none)) ∧ wd D A M s.heap H locs := ⟨_, va_up_self _ _ _, ini_k hq_6 mq_6 nq_14, ini_n mq_14, hW⟩
  refine lv_aload_n hx hb dX4_init_20 rfl (lv_at hl 0 rfl) ?_
  refine lv_bipush (v := 52) hx hb dX4_init_21 (by decide) ?_
  refine w_newq (N' := 52) C hW 4 rfl wm_16 hAO.2.1 (by decide) rfl (by decide) (by decide) (by decide) dX4_init_23 (fun q_23 H nq_23 hW => ?_)
  refine pf_X4_21 (fs2 := [.ref q_6, .ref q_14, .ref q_23, .null, .null, .null, .int 0, .int 0, .int 0, .int 0, .int 0, .int 0]) C hW hini (up_keep hZ nq_23) (Nat.le_of_ble_eq_true rfl) rfl dX4_init_26 (fun H locs hW => ?_)
  have mq_23 : q_23 ≠ Z := (ne_none hZ nq_23).symm
  obtain ⟨M, hZ, hq_6, hq_14, hq_23, hW⟩ : ∃ (M : wM), M Z = some (.inr (4, [.ref q_6, .ref q_14, .ref q_23, .null, .null, .null, .int 0, .int 0, .int 0, .int 0, .int 0, .int 0])) ∧ M q_6 = some (arC cs 4 (fun _ => 0)) ∧ M q_14 = some (rfC (cs 5) 60 (fun _ => none)) ∧ M q_23 = some (rfC (cs 4) 52 (fun _ => none)) ∧ wd D A M s.heap H locs := ⟨_, va_up_self _ _ _, ini_k hq_6 mq_6 nq_23, ini_k hq_14 mq_14 nq_23, ini_n mq_23, hW⟩
  refine lv_aload_n hx hb dX4_init_29 rfl (lv_at hl 0 rfl) ?_
  refine lv_bipush (v := 40) hx hb dX4_init_30 (by decide) ?_
  refine w_newq (N' := 40) C hW 3 rfl wm_18 hAO.1 (by decide) rfl (by decide) (by decide) (by decide) dX4_init_32 (fun q_32 H nq_32 hW => ?_)
  refine pf_X4_27 (fs2 := [.ref q_6, .ref q_14, .ref q_23, .ref q_32, .null, .null, .int 0, .int 0, .int 0, .int 0, .int 0, .int 0]) C hW hini (up_keep hZ nq_32) (Nat.le_of_ble_eq_true rfl) rfl dX4_init_35 (fun H locs hW => ?_)
  have mq_32 : q_32 ≠ Z := (ne_none hZ nq_32).symm
  obtain ⟨M, hZ, hq_6, hq_14, hq_23, hq_32, hW⟩ : ∃ (M : wM), M Z = some (.inr (4, [.ref q_6, .ref q_14, .ref q_23, .ref q_32, .null, .null, .int 0, .int 0, .int 0, .int 0, .int 0, .int 0])) ∧ M q_6 = some (arC cs 4 (fun _ => 0)) ∧ M q_14 = some (rfC (cs 5) 60 (fun _ => none)) ∧ M q_23 = some (rfC (cs 4) 52 (fun _ => none)) ∧ M q_32 = some (rfC (cs 3) 40 (fun _ => none)) ∧ wd D A M s.heap H locs := ⟨_, va_up_self _ _ _, ini_k hq_6 mq_6 nq_32, ini_k hq_14 mq_14 nq_32, ini_k hq_23 mq_23 nq_32, ini_n mq_32, hW⟩
  refine lv_aload_n hx hb dX4_init_38 rfl (lv_at hl 0 rfl) ?_
  refine lv_bipush (v := 80) hx hb dX4_init_39 (by decide) ?_
  refine w_newq (N' := 80) C hW 6 rfl wm_20 hAO.2.2.2 (by decide) rfl (by decide) (by decide) (by decide) dX4_init_41 (fun q_41 H nq_41 hW => ?_)
  refine pf_X4_33 (fs2 := [.ref q_6, .ref q_14, .ref q_23, .ref q_32, .ref q_41, .null, .int 0, .int 0, .int 0, .int 0, .int 0, .int 0]) C hW hini (up_keep hZ nq_41) (Nat.le_of_ble_eq_true rfl) rfl dX4_init_44 (fun H locs hW => ?_)
  have mq_41 : q_41 ≠ Z := (ne_none hZ nq_41).symm
  obtain ⟨M, hZ, hq_6, hq_14, hq_23, hq_32, hq_41, hW⟩ : ∃ (M : wM), M Z = some (.inr (4, [.ref q_6, .ref q_14, .ref q_23, .ref q_32, .ref q_41, .null, .int 0, .int 0, .int 0, .int 0, .int 0, .int 0])) ∧ M q_6 = some (arC cs 4 (fun _ => 0)) ∧ M q_14 = some (rfC (cs 5) 60 (fun _ => none)) ∧ M q_23 = some (rfC (cs 4) 52 (fun _ => none)) ∧ M q_32 = some (rfC (cs 3) 40 (fun _ => none)) ∧ M q_41 = some (rfC (cs 6) 80 (fun _ => none)) ∧ wd D A M s.heap H locs := ⟨_, va_up_self _ _ _, ini_k hq_6 mq_6 nq_41, ini_k hq_14 mq_14 nq_41, ini_k hq_23 mq_23 nq_41, ini_k hq_32 mq_32 nq_41, ini_n mq_41, hW⟩
  refine lv_aload_n hx hb dX4_init_47 rfl (lv_at hl 0 rfl) ?_
  refine lv_iconst (v := 0) hx hb dX4_init_48 (by decide) ?_
  refine wr_goR hW (wr_S (As := [.int 0]) (rest := [.ref Z]) C hW st_X4_37 (c_X1_hullOn l D cs A _ 0) ⟨rfl, rfl, Nat.le_of_ble_eq_true rfl, Nat.le_of_ble_eq_true rfl⟩ rfl hl.1 rfl (Nat.le_of_ble_eq_true rfl) dX4_init_49 ⟨Nat.le_of_ble_eq_true rfl, Nat.le_of_ble_eq_true rfl⟩) (fun r_49 M_49 H locs h_49 hW => ?_)
  obtain ⟨lab2, hl2, hm2, hfg, hrn⟩ := nF_more (lab := fun _ => 0) (k := 1) h_49
  have hlb : lab2 q_6 = 0 := hl2 _ _ hq_6
  have hZ := hm2 _ _ hZ
  have hq_6 := hm2 _ _ hq_6
  have hq_14 := hm2 _ _ hq_14
  have hq_23 := hm2 _ _ hq_23
  have hq_32 := hm2 _ _ hq_32
  have hq_41 := hm2 _ _ hq_41
  refine pf_X4_41 (fs2 := [.ref q_6, .ref q_14, .ref q_23, .ref q_32, .ref q_41, .ref r_49, .int 0, .int 0, .int 0, .int 0, .int 0, .int 0]) C hW hini hZ (Nat.le_of_ble_eq_true rfl) rfl dX4_init_52 (fun H locs hW => ?_)
  obtain ⟨M, ad, hC, hW⟩ : ∃ (M : wM) (ad : Nat → Nat), CSx cs lab2 M Z ad (fun _ => 0) (fun k j => if k = 9 then (if j = 0 then f0 0 else fun _ => 0) else fun _ => 0) (fun _ _ => 0) 0 0 0 0 (fun _ => none) (fun _ => none) (fun _ => none) (fun _ => none) ∧ wd D A M s.heap H locs := ⟨_, (fun k => if k = 0 then q_6 else if k = 1 then q_14 else if k = 2 then q_23 else if k = 3 then q_32 else if k = 4 then q_41 else r_49), ⟨va_up_self _ _ _, ⟨(va_up_ne _ _ mq_6).trans hq_6, hlb⟩, (va_up_ne _ _ mq_14).trans hq_14, (va_up_ne _ _ mq_23).trans hq_23, (va_up_ne _ _ mq_32).trans hq_32, (va_up_ne _ _ mq_41).trans hq_41, hfg.mv (fun _ _ _ _ q => up_o hZ q (fun h => by unfold figC at h; cases h)) (fun _ _ _ q _ => up_o hZ q (fun h => by unfold arC at h; cases h)), fun _ h => absurd h (Nat.not_lt_zero _), fun _ h => absurd h (Nat.not_lt_zero _), fun _ h => absurd h (Nat.not_lt_zero _), fun _ h => absurd h (Nat.not_lt_zero _), fun _ h => absurd h (Nat.not_lt_zero _), fun _ h => absurd h (Nat.not_lt_zero _)⟩, hW⟩
  refine lv_aload_n hx hb dX4_init_55 rfl (lv_at hl 0 rfl) ?_
  refine wr_goV hW (wr_V (As := []) (rest := []) C hW st_X4_45 (c_X4_forgetAll l D cs A _ Z lab2 ad (fun _ => 0) (fun k j => if k = 9 then (if j = 0 then f0 0 else fun _ => 0) else fun _ => 0) (fun _ _ => 0) 0 0 0 0 (fun _ => none) (fun _ => none) (fun _ => none) (fun _ => none) hC) (CSx.z hC) rfl rfl ⟨rfl, rfl, Nat.le_of_ble_eq_true rfl, Nat.le_of_ble_eq_true rfl⟩ rfl hl.1 rfl (Nat.le_of_ble_eq_true rfl) dX4_init_56 ⟨Nat.le_of_ble_eq_true rfl, Nat.le_of_ble_eq_true rfl⟩) (fun M_56 H locs h_56 hW => ?_)
  obtain ⟨w_1, hC, ew_1⟩ := h_56
  refine W.widen (k := 8) (n := 251) (by decide) (by decide) ?_
  exact wr_vret C hW hr hlk (⟨_, _, _, _, _, _, _, _, _, hC, ew_1⟩) dX4_init_59


theorem up_keep {M : wM} {a q : Nat} {e : va_E} {e2 : Option va_E} (h : M a = some e) (hq : M q = none) : va_up M q e2 a = some e := by
  rw [va_up_ne _ _ (fun z => by rw [z, hq] at h; cases h)]
  exact h
/-- the reference while it is made: its fields below n stand -/
def rFp (ad : Nat → Nat) (n : Nat) : List Value := (List.range 36).map fun k => if rK k = 9 then .int 0 else if k < n then .ref (ad k) else .null
def rE (cs : Nat → ClassId) (k : Nat) : va_E := if rK k = 0 then .inl (cs 0, rlen k, .inl (fun _ => 0)) else if rK k = 2 then .inl (cs 2, rlen k, .inl (fun _ => 0)) else .inl (cs 1, rlen k, .inr (.inl (fun _ => 0)))
def RSp (cs : Nat → ClassId) (M : wM) (X : Nat) (ad : Nat → Nat) (n : Nat) : Prop := M X = some (.inr (5, rFp ad n)) ∧ (∀ k, k < n → rK k ≠ 9 → M (ad k) = some (rE cs k)) ∧ (∀ i j, i < n → j < n → ad i = ad j → rK i ≠ 9 → rK j ≠ 9 → i = j)
theorem RSp.skip {cs : Nat → ClassId} {M : wM} {X : Nat} {ad : Nat → Nat} {n : Nat} (h : RSp cs M X ad n) (hk : rK n = 9) (he : rFp ad n = rFp ad (n + 1)) : RSp cs M X ad (n + 1) := by
  obtain ⟨h1, h2, h3⟩ := h
  refine ⟨by rw [← he]; exact h1, fun k hn hk2 => h2 k ((show k < n ∨ k = n by omega).elim id (fun q => by rw [q] at hk2; exact absurd hk hk2)) hk2, fun i j hi hj e ki kj => h3 i j ?_ ?_ e ki kj⟩
  · rcases (show i < n ∨ i = n by omega) with q | q
    · exact q
    · rw [q] at ki; exact absurd hk ki
  · rcases (show j < n ∨ j = n by omega) with q | q
    · exact q
    · rw [q] at kj; exact absurd hk kj
theorem RSp.step {cs : Nat → ClassId} {M : wM} {X : Nat} {ad : Nat → Nat} {n q : Nat} (h : RSp cs M X ad n) (hq : M q = none) : RSp cs (va_up (va_up M q (some (rE cs n))) X (some (.inr (5, rFp (va_up ad n q) (n + 1))))) X (va_up ad n q) (n + 1) := by
  obtain ⟨h1, h2, h3⟩ := h
  have hX : X ≠ q := fun z => by rw [z, hq] at h1; cases h1
  have hnx : ∀ k, k < n → rK k ≠ 9 → ad k ≠ X := fun k hk hk2 z => by
    have h4 := h2 k hk hk2
    rw [z, h1] at h4
    unfold rE at h4
    split at h4
    · cases h4
    · split at h4 <;> cases h4
  have hnq : ∀ k, k < n → rK k ≠ 9 → ad k ≠ q := fun k hk hk2 z => by
    have h4 := h2 k hk hk2
    rw [z, hq] at h4
    cases h4
  refine ⟨va_up_self _ _ _, fun k hk hk2 => ?_, fun i j hi hj e ki kj => ?_⟩
  · by_cases z : k = n
    · subst z
      rw [va_up_self, va_up_ne _ _ (fun w => hX w.symm), va_up_self]
    · have hkn : k < n := by omega
      rw [va_up_ne _ _ z, va_up_ne _ _ (hnx k hkn hk2), va_up_ne _ _ (hnq k hkn hk2)]
      exact h2 k hkn hk2
  · by_cases zi : i = n
    · by_cases zj : j = n
      · rw [zi, zj]
      · rw [zi, va_up_self, va_up_ne _ _ zj] at e
        exact absurd e.symm (hnq j (by omega) kj)
    · by_cases zj : j = n
      · rw [zj, va_up_self, va_up_ne _ _ zi] at e
        exact absurd e (hnq i (by omega) ki)
      · rw [va_up_ne _ _ zi, va_up_ne _ _ zj] at e
        exact h3 i j (by omega) (by omega) e ki kj
theorem rK_lt {k : Nat} (h : rK k ≠ 9) : k < 36 := by
  apply Nat.not_le.mp
  intro q
  apply h
  unfold rK
  split <;> first | rfl | omega
theorem RSp.done {cs : Nat → ClassId} {M : wM} {X : Nat} {ad : Nat → Nat} (h : RSp cs M X ad 36) : RS cs M X ad (fun _ => 0) (fun _ _ => 0) (fun _ _ => 0) := by
  obtain ⟨h1, h2, h3⟩ := h
  refine ⟨h1, fun k hk => ?_, fun k hk => ?_, fun k hk => ?_, fun i j e ki kj => h3 i j (rK_lt ki) (rK_lt kj) e ki kj⟩
  · rw [h2 k (rK_lt (by rw [hk]; decide)) (by rw [hk]; decide), rE, if_pos hk]
  · rw [h2 k (rK_lt (by rw [hk]; decide)) (by rw [hk]; decide), rE, if_neg (by rw [hk]; decide), if_pos hk]
  · rw [h2 k (rK_lt (by rw [hk]; decide)) (by rw [hk]; decide), rE, if_neg (by rw [hk]; decide), if_neg (by rw [hk]; decide)]
set_option maxHeartbeats 4000000 in
set_option maxRecDepth 100000 in
theorem c_X5_init (l : Launch) (D : va_G) (cs : Nat → ClassId) (A : Nat → Prop) (M : wM) (X : Nat) (hX : M X = some (.inr (5, [.int 0, .null, .int 0, .null, .null, .null, .null, .int 0, .null, .null, .null, .null, .null, .int 0, .null, .null, .null, .null, .null, .int 0, .null, .null, .null, .null, .null, .null, .null, .null, .null, .null, .null, .null, .null, .null, .null, .null]))) : Met l yX5_init (mw yX5_init cX5_init 1 none) { frames := 1, cells := 31, slots := 1280, locals := 20 } (wrP D cs A M [.ref X]) (va_Qv (fun M' => ∃ ad, RS cs M' X ad (fun _ => 0) (fun _ _ => 0) (fun _ _ => 0)) (wrB D A) A) 31 1280 A := by
  refine wr_met rfl (Nat.le_of_ble_eq_true rfl) ?_
  intro p e s m below meth c ls C hW hr hlk hini hl
  have C : kx D cs p m c cX5_init 1 s _ RX5 := C
  have hx := C.1.1
  have hb := C.1.2.1
  have hl : lv_has ls 1 [(0, .ref X)] := hl
  obtain ⟨ad0, hS⟩ : ∃ ad, RSp cs M X ad 0 := ⟨fun _ => 0, hX, fun k h => absurd h (by omega), fun i j h => absurd h (by omega)⟩
  have hS : RSp cs M X ad0 1 := RSp.skip hS rfl rfl
  refine lv_aload_n hx hb dX5_init_0 rfl (lv_at hl 0 rfl) ?_
  refine W.objInit hx hb C.1.2.2.2.1 (C.1.2.2.2.2 _ wm_49) (C.1.2.2.2.2 _ wm_10) (C.1.2.2.2.2 _ wm_11) rfl (by rw [C.1.2.2.1]; exact hl.1) rfl dX5_init_1 (Nat.le_of_ble_eq_true rfl) (Nat.le_of_ble_eq_true rfl) ?_
  refine W.eq (g2 := F0 m 4 ls []) rfl ?_
  refine lv_aload_n hx hb dX5_init_4 rfl (lv_at hl 0 rfl) ?_
  refine lv_iconst (v := 4) hx hb dX5_init_5 (by decide) ?_
  refine w_newa (atype := .int) (N' := 4) (a0 := (4, .inl (fun _ => 0))) (ty := .int) C hW 0 rfl (fun _ _ h => h) wm_12 rfl (fun _ => rfl) (by decide) (by rfl) (by decide) (by decide) (by decide) dX5_init_6 (fun q_6 H nq_6 hW => ?_)
  refine pf_X5_7 (fs := rFp ad0 1) (fs2 := rFp (va_up ad0 1 q_6) 2) C hW hini (up_keep hS.1 nq_6) (Nat.le_of_ble_eq_true rfl) rfl dX5_init_8 (fun H locs hW => ?_)
  obtain ⟨M, ad_1, hS, hW⟩ : ∃ (M : wM) (ad : Nat → Nat), RSp cs M X ad 2 ∧ wd D A M s.heap H locs := ⟨_, _, RSp.step hS nq_6, hW⟩
  have hS : RSp cs M X ad_1 3 := RSp.skip hS rfl rfl
  refine lv_aload_n hx hb dX5_init_11 rfl (lv_at hl 0 rfl) ?_
  refine lv_bipush (v := 60) hx hb dX5_init_12 (by decide) ?_
  refine w_newa (atype := .int) (N' := 60) (a0 := (60, .inl (fun _ => 0))) (ty := .int) C hW 0 rfl (fun _ _ h => h) wm_12 rfl (fun _ => rfl) (by decide) (by rfl) (by decide) (by decide) (by decide) dX5_init_14 (fun q_14 H nq_14 hW => ?_)
  refine pf_X5_13 (fs := rFp ad_1 3) (fs2 := rFp (va_up ad_1 3 q_14) 4) C hW hini (up_keep hS.1 nq_14) (Nat.le_of_ble_eq_true rfl) rfl dX5_init_16 (fun H locs hW => ?_)
  obtain ⟨M, ad_3, hS, hW⟩ : ∃ (M : wM) (ad : Nat → Nat), RSp cs M X ad 4 ∧ wd D A M s.heap H locs := ⟨_, _, RSp.step hS nq_14, hW⟩
  refine lv_aload_n hx hb dX5_init_19 rfl (lv_at hl 0 rfl) ?_
  refine lv_bipush (v := 60) hx hb dX5_init_20 (by decide) ?_
  refine w_newa (atype := .int) (N' := 60) (a0 := (60, .inl (fun _ => 0))) (ty := .int) C hW 0 rfl (fun _ _ h => h) wm_12 rfl (fun _ => rfl) (by decide) (by rfl) (by decide) (by decide) (by decide) dX5_init_22 (fun q_22 H nq_22 hW => ?_)
  refine pf_X5_16 (fs := rFp ad_3 4) (fs2 := rFp (va_up ad_3 4 q_22) 5) C hW hini (up_keep hS.1 nq_22) (Nat.le_of_ble_eq_true rfl) rfl dX5_init_24 (fun H locs hW => ?_)
  obtain ⟨M, ad_4, hS, hW⟩ : ∃ (M : wM) (ad : Nat → Nat), RSp cs M X ad 5 ∧ wd D A M s.heap H locs := ⟨_, _, RSp.step hS nq_22, hW⟩
  refine lv_aload_n hx hb dX5_init_27 rfl (lv_at hl 0 rfl) ?_
  refine lv_bipush (v := 60) hx hb dX5_init_28 (by decide) ?_
  refine w_newa (atype := .int) (N' := 60) (a0 := (60, .inl (fun _ => 0))) (ty := .int) C hW 0 rfl (fun _ _ h => h) wm_12 rfl (fun _ => rfl) (by decide) (by rfl) (by decide) (by decide) (by decide) dX5_init_30 (fun q_30 H nq_30 hW => ?_)
  refine pf_X5_19 (fs := rFp ad_4 5) (fs2 := rFp (va_up ad_4 5 q_30) 6) C hW hini (up_keep hS.1 nq_30) (Nat.le_of_ble_eq_true rfl) rfl dX5_init_32 (fun H locs hW => ?_)
  obtain ⟨M, ad_5, hS, hW⟩ : ∃ (M : wM) (ad : Nat → Nat), RSp cs M X ad 6 ∧ wd D A M s.heap H locs := ⟨_, _, RSp.step hS nq_30, hW⟩
  refine lv_aload_n hx hb dX5_init_35 rfl (lv_at hl 0 rfl) ?_
  refine lv_bipush (v := 60) hx hb dX5_init_36 (by decide) ?_
  refine w_newa (atype := .boolean) (N' := 60) (a0 := (60, .inl (fun _ => 0))) (ty := .boolean) C hW 2 rfl (fun _ _ h => h) wm_54 rfl (fun _ => rfl) (by decide) (by rfl) (by decide) (by decide) (by decide) dX5_init_38 (fun q_38 H nq_38 hW => ?_)
  refine pf_X5_22 (fs := rFp ad_5 6) (fs2 := rFp (va_up ad_5 6 q_38) 7) C hW hini (up_keep hS.1 nq_38) (Nat.le_of_ble_eq_true rfl) rfl dX5_init_40 (fun H locs hW => ?_)
  obtain ⟨M, ad_6, hS, hW⟩ : ∃ (M : wM) (ad : Nat → Nat), RSp cs M X ad 7 ∧ wd D A M s.heap H locs := ⟨_, _, RSp.step hS nq_38, hW⟩
  have hS : RSp cs M X ad_6 8 := RSp.skip hS rfl rfl
  refine lv_aload_n hx hb dX5_init_43 rfl (lv_at hl 0 rfl) ?_
  refine lv_bipush (v := 40) hx hb dX5_init_44 (by decide) ?_
  refine w_newa (atype := .int) (N' := 40) (a0 := (40, .inl (fun _ => 0))) (ty := .int) C hW 0 rfl (fun _ _ h => h) wm_12 rfl (fun _ => rfl) (by decide) (by rfl) (by decide) (by decide) (by decide) dX5_init_46 (fun q_46 H nq_46 hW => ?_)
  refine pf_X5_26 (fs := rFp ad_6 8) (fs2 := rFp (va_up ad_6 8 q_46) 9) C hW hini (up_keep hS.1 nq_46) (Nat.le_of_ble_eq_true rfl) rfl dX5_init_48 (fun H locs hW => ?_)
  obtain ⟨M, ad_8, hS, hW⟩ : ∃ (M : wM) (ad : Nat → Nat), RSp cs M X ad 9 ∧ wd D A M s.heap H locs := ⟨_, _, RSp.step hS nq_46, hW⟩
  refine lv_aload_n hx hb dX5_init_51 rfl (lv_at hl 0 rfl) ?_
  refine lv_bipush (v := 40) hx hb dX5_init_52 (by decide) ?_
  refine w_newa (atype := .int) (N' := 40) (a0 := (40, .inl (fun _ => 0))) (ty := .int) C hW 0 rfl (fun _ _ h => h) wm_12 rfl (fun _ => rfl) (by decide) (by rfl) (by decide) (by decide) (by decide) dX5_init_54 (fun q_54 H nq_54 hW => ?_)
  refine pf_X5_29 (fs := rFp ad_8 9) (fs2 := rFp (va_up ad_8 9 q_54) 10) C hW hini (up_keep hS.1 nq_54) (Nat.le_of_ble_eq_true rfl) rfl dX5_init_56 (fun H locs hW => ?_)
  obtain ⟨M, ad_9, hS, hW⟩ : ∃ (M : wM) (ad : Nat → Nat), RSp cs M X ad 10 ∧ wd D A M s.heap H locs := ⟨_, _, RSp.step hS nq_54, hW⟩
  refine lv_aload_n hx hb dX5_init_59 rfl (lv_at hl 0 rfl) ?_
  refine lv_bipush (v := 40) hx hb dX5_init_60 (by decide) ?_
  refine w_newa (atype := .int) (N' := 40) (a0 := (40, .inl (fun _ => 0))) (ty := .int) C hW 0 rfl (fun _ _ h => h) wm_12 rfl (fun _ => rfl) (by decide) (by rfl) (by decide) (by decide) (by decide) dX5_init_62 (fun q_62 H nq_62 hW => ?_)
  refine pf_X5_32 (fs := rFp ad_9 10) (fs2 := rFp (va_up ad_9 10 q_62) 11) C hW hini (up_keep hS.1 nq_62) (Nat.le_of_ble_eq_true rfl) rfl dX5_init_64 (fun H locs hW => ?_)
  obtain ⟨M, ad_10, hS, hW⟩ : ∃ (M : wM) (ad : Nat → Nat), RSp cs M X ad 11 ∧ wd D A M s.heap H locs := ⟨_, _, RSp.step hS nq_62, hW⟩
  refine lv_aload_n hx hb dX5_init_67 rfl (lv_at hl 0 rfl) ?_
  refine lv_bipush (v := 40) hx hb dX5_init_68 (by decide) ?_
  refine w_newa (atype := .int) (N' := 40) (a0 := (40, .inl (fun _ => 0))) (ty := .int) C hW 0 rfl (fun _ _ h => h) wm_12 rfl (fun _ => rfl) (by decide) (by rfl) (by decide) (by decide) (by decide) dX5_init_70 (fun q_70 H nq_70 hW => ?_)
  refine pf_X5_35 (fs := rFp ad_10 11) (fs2 := rFp (va_up ad_10 11 q_70) 12) C hW hini (up_keep hS.1 nq_70) (Nat.le_of_ble_eq_true rfl) rfl dX5_init_72 (fun H locs hW => ?_)
  obtain ⟨M, ad_11, hS, hW⟩ : ∃ (M : wM) (ad : Nat → Nat), RSp cs M X ad 12 ∧ wd D A M s.heap H locs := ⟨_, _, RSp.step hS nq_70, hW⟩
  refine lv_aload_n hx hb dX5_init_75 rfl (lv_at hl 0 rfl) ?_
  refine lv_bipush (v := 40) hx hb dX5_init_76 (by decide) ?_
  refine w_newa (atype := .int) (N' := 40) (a0 := (40, .inl (fun _ => 0))) (ty := .int) C hW 0 rfl (fun _ _ h => h) wm_12 rfl (fun _ => rfl) (by decide) (by rfl) (by decide) (by decide) (by decide) dX5_init_78 (fun q_78 H nq_78 hW => ?_)
  refine pf_X5_38 (fs := rFp ad_11 12) (fs2 := rFp (va_up ad_11 12 q_78) 13) C hW hini (up_keep hS.1 nq_78) (Nat.le_of_ble_eq_true rfl) rfl dX5_init_80 (fun H locs hW => ?_)
  obtain ⟨M, ad_12, hS, hW⟩ : ∃ (M : wM) (ad : Nat → Nat), RSp cs M X ad 13 ∧ wd D A M s.heap H locs := ⟨_, _, RSp.step hS nq_78, hW⟩
  have hS : RSp cs M X ad_12 14 := RSp.skip hS rfl rfl
  refine lv_aload_n hx hb dX5_init_83 rfl (lv_at hl 0 rfl) ?_
  refine lv_bipush (v := 12) hx hb dX5_init_84 (by decide) ?_
  refine w_newa (atype := .int) (N' := 12) (a0 := (12, .inl (fun _ => 0))) (ty := .int) C hW 0 rfl (fun _ _ h => h) wm_12 rfl (fun _ => rfl) (by decide) (by rfl) (by decide) (by decide) (by decide) dX5_init_86 (fun q_86 H nq_86 hW => ?_)
  refine pf_X5_41 (fs := rFp ad_12 14) (fs2 := rFp (va_up ad_12 14 q_86) 15) C hW hini (up_keep hS.1 nq_86) (Nat.le_of_ble_eq_true rfl) rfl dX5_init_88 (fun H locs hW => ?_)
  obtain ⟨M, ad_14, hS, hW⟩ : ∃ (M : wM) (ad : Nat → Nat), RSp cs M X ad 15 ∧ wd D A M s.heap H locs := ⟨_, _, RSp.step hS nq_86, hW⟩
  refine lv_aload_n hx hb dX5_init_91 rfl (lv_at hl 0 rfl) ?_
  refine lv_bipush (v := 12) hx hb dX5_init_92 (by decide) ?_
  refine w_newa (atype := .int) (N' := 12) (a0 := (12, .inl (fun _ => 0))) (ty := .int) C hW 0 rfl (fun _ _ h => h) wm_12 rfl (fun _ => rfl) (by decide) (by rfl) (by decide) (by decide) (by decide) dX5_init_94 (fun q_94 H nq_94 hW => ?_)
  refine pf_X5_44 (fs := rFp ad_14 15) (fs2 := rFp (va_up ad_14 15 q_94) 16) C hW hini (up_keep hS.1 nq_94) (Nat.le_of_ble_eq_true rfl) rfl dX5_init_96 (fun H locs hW => ?_)
  obtain ⟨M, ad_15, hS, hW⟩ : ∃ (M : wM) (ad : Nat → Nat), RSp cs M X ad 16 ∧ wd D A M s.heap H locs := ⟨_, _, RSp.step hS nq_94, hW⟩
  refine lv_aload_n hx hb dX5_init_99 rfl (lv_at hl 0 rfl) ?_
  refine lv_bipush (v := 12) hx hb dX5_init_100 (by decide) ?_
  refine w_newa (atype := .int) (N' := 12) (a0 := (12, .inl (fun _ => 0))) (ty := .int) C hW 0 rfl (fun _ _ h => h) wm_12 rfl (fun _ => rfl) (by decide) (by rfl) (by decide) (by decide) (by decide) dX5_init_102 (fun q_102 H nq_102 hW => ?_)
  refine pf_X5_47 (fs := rFp ad_15 16) (fs2 := rFp (va_up ad_15 16 q_102) 17) C hW hini (up_keep hS.1 nq_102) (Nat.le_of_ble_eq_true rfl) rfl dX5_init_104 (fun H locs hW => ?_)
  obtain ⟨M, ad_16, hS, hW⟩ : ∃ (M : wM) (ad : Nat → Nat), RSp cs M X ad 17 ∧ wd D A M s.heap H locs := ⟨_, _, RSp.step hS nq_102, hW⟩
  refine lv_aload_n hx hb dX5_init_107 rfl (lv_at hl 0 rfl) ?_
  refine lv_bipush (v := 12) hx hb dX5_init_108 (by decide) ?_
  refine w_newa (atype := .int) (N' := 12) (a0 := (12, .inl (fun _ => 0))) (ty := .int) C hW 0 rfl (fun _ _ h => h) wm_12 rfl (fun _ => rfl) (by decide) (by rfl) (by decide) (by decide) (by decide) dX5_init_110 (fun q_110 H nq_110 hW => ?_)
  refine pf_X5_50 (fs := rFp ad_16 17) (fs2 := rFp (va_up ad_16 17 q_110) 18) C hW hini (up_keep hS.1 nq_110) (Nat.le_of_ble_eq_true rfl) rfl dX5_init_112 (fun H locs hW => ?_)
  obtain ⟨M, ad_17, hS, hW⟩ : ∃ (M : wM) (ad : Nat → Nat), RSp cs M X ad 18 ∧ wd D A M s.heap H locs := ⟨_, _, RSp.step hS nq_110, hW⟩
  refine lv_aload_n hx hb dX5_init_115 rfl (lv_at hl 0 rfl) ?_
  refine lv_bipush (v := 12) hx hb dX5_init_116 (by decide) ?_
  refine w_newa (atype := .int) (N' := 12) (a0 := (12, .inl (fun _ => 0))) (ty := .int) C hW 0 rfl (fun _ _ h => h) wm_12 rfl (fun _ => rfl) (by decide) (by rfl) (by decide) (by decide) (by decide) dX5_init_118 (fun q_118 H nq_118 hW => ?_)
  refine pf_X5_53 (fs := rFp ad_17 18) (fs2 := rFp (va_up ad_17 18 q_118) 19) C hW hini (up_keep hS.1 nq_118) (Nat.le_of_ble_eq_true rfl) rfl dX5_init_120 (fun H locs hW => ?_)
  obtain ⟨M, ad_18, hS, hW⟩ : ∃ (M : wM) (ad : Nat → Nat), RSp cs M X ad 19 ∧ wd D A M s.heap H locs := ⟨_, _, RSp.step hS nq_118, hW⟩
  have hS : RSp cs M X ad_18 20 := RSp.skip hS rfl rfl
  refine lv_aload_n hx hb dX5_init_123 rfl (lv_at hl 0 rfl) ?_
  refine lv_bipush (v := 40) hx hb dX5_init_124 (by decide) ?_
  refine w_newa (atype := .int) (N' := 40) (a0 := (40, .inl (fun _ => 0))) (ty := .int) C hW 0 rfl (fun _ _ h => h) wm_12 rfl (fun _ => rfl) (by decide) (by rfl) (by decide) (by decide) (by decide) dX5_init_126 (fun q_126 H nq_126 hW => ?_)
  refine pf_X5_56 (fs := rFp ad_18 20) (fs2 := rFp (va_up ad_18 20 q_126) 21) C hW hini (up_keep hS.1 nq_126) (Nat.le_of_ble_eq_true rfl) rfl dX5_init_128 (fun H locs hW => ?_)
  obtain ⟨M, ad_20, hS, hW⟩ : ∃ (M : wM) (ad : Nat → Nat), RSp cs M X ad 21 ∧ wd D A M s.heap H locs := ⟨_, _, RSp.step hS nq_126, hW⟩
  refine lv_aload_n hx hb dX5_init_131 rfl (lv_at hl 0 rfl) ?_
  refine lv_bipush (v := 40) hx hb dX5_init_132 (by decide) ?_
  refine w_newa (atype := .int) (N' := 40) (a0 := (40, .inl (fun _ => 0))) (ty := .int) C hW 0 rfl (fun _ _ h => h) wm_12 rfl (fun _ => rfl) (by decide) (by rfl) (by decide) (by decide) (by decide) dX5_init_134 (fun q_134 H nq_134 hW => ?_)
  refine pf_X5_59 (fs := rFp ad_20 21) (fs2 := rFp (va_up ad_20 21 q_134) 22) C hW hini (up_keep hS.1 nq_134) (Nat.le_of_ble_eq_true rfl) rfl dX5_init_136 (fun H locs hW => ?_)
  obtain ⟨M, ad_21, hS, hW⟩ : ∃ (M : wM) (ad : Nat → Nat), RSp cs M X ad 22 ∧ wd D A M s.heap H locs := ⟨_, _, RSp.step hS nq_134, hW⟩
  refine lv_aload_n hx hb dX5_init_139 rfl (lv_at hl 0 rfl) ?_
  refine lv_bipush (v := 40) hx hb dX5_init_140 (by decide) ?_
  refine w_newa (atype := .boolean) (N' := 40) (a0 := (40, .inl (fun _ => 0))) (ty := .boolean) C hW 2 rfl (fun _ _ h => h) wm_54 rfl (fun _ => rfl) (by decide) (by rfl) (by decide) (by decide) (by decide) dX5_init_142 (fun q_142 H nq_142 hW => ?_)
  refine pf_X5_62 (fs := rFp ad_21 22) (fs2 := rFp (va_up ad_21 22 q_142) 23) C hW hini (up_keep hS.1 nq_142) (Nat.le_of_ble_eq_true rfl) rfl dX5_init_144 (fun H locs hW => ?_)
  obtain ⟨M, ad_22, hS, hW⟩ : ∃ (M : wM) (ad : Nat → Nat), RSp cs M X ad 23 ∧ wd D A M s.heap H locs := ⟨_, _, RSp.step hS nq_142, hW⟩
  refine lv_aload_n hx hb dX5_init_147 rfl (lv_at hl 0 rfl) ?_
  refine lv_bipush (v := 40) hx hb dX5_init_148 (by decide) ?_
  refine w_newa (atype := .int) (N' := 40) (a0 := (40, .inl (fun _ => 0))) (ty := .int) C hW 0 rfl (fun _ _ h => h) wm_12 rfl (fun _ => rfl) (by decide) (by rfl) (by decide) (by decide) (by decide) dX5_init_150 (fun q_150 H nq_150 hW => ?_)
  refine pf_X5_65 (fs := rFp ad_22 23) (fs2 := rFp (va_up ad_22 23 q_150) 24) C hW hini (up_keep hS.1 nq_150) (Nat.le_of_ble_eq_true rfl) rfl dX5_init_152 (fun H locs hW => ?_)
  obtain ⟨M, ad_23, hS, hW⟩ : ∃ (M : wM) (ad : Nat → Nat), RSp cs M X ad 24 ∧ wd D A M s.heap H locs := ⟨_, _, RSp.step hS nq_150, hW⟩
  refine lv_aload_n hx hb dX5_init_155 rfl (lv_at hl 0 rfl) ?_
  refine lv_bipush (v := 40) hx hb dX5_init_156 (by decide) ?_
  refine w_newa (atype := .int) (N' := 40) (a0 := (40, .inl (fun _ => 0))) (ty := .int) C hW 0 rfl (fun _ _ h => h) wm_12 rfl (fun _ => rfl) (by decide) (by rfl) (by decide) (by decide) (by decide) dX5_init_158 (fun q_158 H nq_158 hW => ?_)
  refine pf_X5_68 (fs := rFp ad_23 24) (fs2 := rFp (va_up ad_23 24 q_158) 25) C hW hini (up_keep hS.1 nq_158) (Nat.le_of_ble_eq_true rfl) rfl dX5_init_160 (fun H locs hW => ?_)
  obtain ⟨M, ad_24, hS, hW⟩ : ∃ (M : wM) (ad : Nat → Nat), RSp cs M X ad 25 ∧ wd D A M s.heap H locs := ⟨_, _, RSp.step hS nq_158, hW⟩
  refine lv_aload_n hx hb dX5_init_163 rfl (lv_at hl 0 rfl) ?_
  refine lv_bipush (v := 80) hx hb dX5_init_164 (by decide) ?_
  refine w_newa (atype := .int) (N' := 80) (a0 := (80, .inl (fun _ => 0))) (ty := .int) C hW 0 rfl (fun _ _ h => h) wm_12 rfl (fun _ => rfl) (by decide) (by rfl) (by decide) (by decide) (by decide) dX5_init_166 (fun q_166 H nq_166 hW => ?_)
  refine pf_X5_71 (fs := rFp ad_24 25) (fs2 := rFp (va_up ad_24 25 q_166) 26) C hW hini (up_keep hS.1 nq_166) (Nat.le_of_ble_eq_true rfl) rfl dX5_init_168 (fun H locs hW => ?_)
  obtain ⟨M, ad_25, hS, hW⟩ : ∃ (M : wM) (ad : Nat → Nat), RSp cs M X ad 26 ∧ wd D A M s.heap H locs := ⟨_, _, RSp.step hS nq_166, hW⟩
  refine lv_aload_n hx hb dX5_init_171 rfl (lv_at hl 0 rfl) ?_
  refine lv_bipush (v := 80) hx hb dX5_init_172 (by decide) ?_
  refine w_newa (atype := .int) (N' := 80) (a0 := (80, .inl (fun _ => 0))) (ty := .int) C hW 0 rfl (fun _ _ h => h) wm_12 rfl (fun _ => rfl) (by decide) (by rfl) (by decide) (by decide) (by decide) dX5_init_174 (fun q_174 H nq_174 hW => ?_)
  refine pf_X5_74 (fs := rFp ad_25 26) (fs2 := rFp (va_up ad_25 26 q_174) 27) C hW hini (up_keep hS.1 nq_174) (Nat.le_of_ble_eq_true rfl) rfl dX5_init_176 (fun H locs hW => ?_)
  obtain ⟨M, ad_26, hS, hW⟩ : ∃ (M : wM) (ad : Nat → Nat), RSp cs M X ad 27 ∧ wd D A M s.heap H locs := ⟨_, _, RSp.step hS nq_174, hW⟩
  refine lv_aload_n hx hb dX5_init_179 rfl (lv_at hl 0 rfl) ?_
  refine lv_bipush (v := 80) hx hb dX5_init_180 (by decide) ?_
  refine w_newa (atype := .int) (N' := 80) (a0 := (80, .inl (fun _ => 0))) (ty := .int) C hW 0 rfl (fun _ _ h => h) wm_12 rfl (fun _ => rfl) (by decide) (by rfl) (by decide) (by decide) (by decide) dX5_init_182 (fun q_182 H nq_182 hW => ?_)
  refine pf_X5_77 (fs := rFp ad_26 27) (fs2 := rFp (va_up ad_26 27 q_182) 28) C hW hini (up_keep hS.1 nq_182) (Nat.le_of_ble_eq_true rfl) rfl dX5_init_184 (fun H locs hW => ?_)
  obtain ⟨M, ad_27, hS, hW⟩ : ∃ (M : wM) (ad : Nat → Nat), RSp cs M X ad 28 ∧ wd D A M s.heap H locs := ⟨_, _, RSp.step hS nq_182, hW⟩
  refine lv_aload_n hx hb dX5_init_187 rfl (lv_at hl 0 rfl) ?_
  refine lv_bipush (v := 80) hx hb dX5_init_188 (by decide) ?_
  refine w_newa (atype := .int) (N' := 80) (a0 := (80, .inl (fun _ => 0))) (ty := .int) C hW 0 rfl (fun _ _ h => h) wm_12 rfl (fun _ => rfl) (by decide) (by rfl) (by decide) (by decide) (by decide) dX5_init_190 (fun q_190 H nq_190 hW => ?_)
  refine pf_X5_80 (fs := rFp ad_27 28) (fs2 := rFp (va_up ad_27 28 q_190) 29) C hW hini (up_keep hS.1 nq_190) (Nat.le_of_ble_eq_true rfl) rfl dX5_init_192 (fun H locs hW => ?_)
  obtain ⟨M, ad_28, hS, hW⟩ : ∃ (M : wM) (ad : Nat → Nat), RSp cs M X ad 29 ∧ wd D A M s.heap H locs := ⟨_, _, RSp.step hS nq_190, hW⟩
  refine lv_aload_n hx hb dX5_init_195 rfl (lv_at hl 0 rfl) ?_
  refine lv_bipush (v := 80) hx hb dX5_init_196 (by decide) ?_
  refine w_newa (atype := .int) (N' := 80) (a0 := (80, .inl (fun _ => 0))) (ty := .int) C hW 0 rfl (fun _ _ h => h) wm_12 rfl (fun _ => rfl) (by decide) (by rfl) (by decide) (by decide) (by decide) dX5_init_198 (fun q_198 H nq_198 hW => ?_)
  refine pf_X5_83 (fs := rFp ad_28 29) (fs2 := rFp (va_up ad_28 29 q_198) 30) C hW hini (up_keep hS.1 nq_198) (Nat.le_of_ble_eq_true rfl) rfl dX5_init_200 (fun H locs hW => ?_)
  obtain ⟨M, ad_29, hS, hW⟩ : ∃ (M : wM) (ad : Nat → Nat), RSp cs M X ad 30 ∧ wd D A M s.heap H locs := ⟨_, _, RSp.step hS nq_198, hW⟩
  refine lv_aload_n hx hb dX5_init_203 rfl (lv_at hl 0 rfl) ?_
  refine lv_bipush (v := 80) hx hb dX5_init_204 (by decide) ?_
  refine w_newa (atype := .int) (N' := 80) (a0 := (80, .inl (fun _ => 0))) (ty := .int) C hW 0 rfl (fun _ _ h => h) wm_12 rfl (fun _ => rfl) (by decide) (by rfl) (by decide) (by decide) (by decide) dX5_init_206 (fun q_206 H nq_206 hW => ?_)
  refine pf_X5_86 (fs := rFp ad_29 30) (fs2 := rFp (va_up ad_29 30 q_206) 31) C hW hini (up_keep hS.1 nq_206) (Nat.le_of_ble_eq_true rfl) rfl dX5_init_208 (fun H locs hW => ?_)
  obtain ⟨M, ad_30, hS, hW⟩ : ∃ (M : wM) (ad : Nat → Nat), RSp cs M X ad 31 ∧ wd D A M s.heap H locs := ⟨_, _, RSp.step hS nq_206, hW⟩
  refine lv_aload_n hx hb dX5_init_211 rfl (lv_at hl 0 rfl) ?_
  refine lv_bipush (v := 80) hx hb dX5_init_212 (by decide) ?_
  refine w_newa (atype := .int) (N' := 80) (a0 := (80, .inl (fun _ => 0))) (ty := .int) C hW 0 rfl (fun _ _ h => h) wm_12 rfl (fun _ => rfl) (by decide) (by rfl) (by decide) (by decide) (by decide) dX5_init_214 (fun q_214 H nq_214 hW => ?_)
  refine pf_X5_89 (fs := rFp ad_30 31) (fs2 := rFp (va_up ad_30 31 q_214) 32) C hW hini (up_keep hS.1 nq_214) (Nat.le_of_ble_eq_true rfl) rfl dX5_init_216 (fun H locs hW => ?_)
  obtain ⟨M, ad_31, hS, hW⟩ : ∃ (M : wM) (ad : Nat → Nat), RSp cs M X ad 32 ∧ wd D A M s.heap H locs := ⟨_, _, RSp.step hS nq_214, hW⟩
  refine lv_aload_n hx hb dX5_init_219 rfl (lv_at hl 0 rfl) ?_
  refine lv_iconst (v := 4) hx hb dX5_init_220 (by decide) ?_
  refine w_newa (atype := .long) (N' := 4) (a0 := (4, .inr (.inl (fun _ => 0)))) (ty := .long) C hW 1 rfl (fun _ _ h => h) wm_78 rfl (fun _ => rfl) (by decide) (by rfl) (by decide) (by decide) (by decide) dX5_init_221 (fun q_221 H nq_221 hW => ?_)
  refine pf_X5_92 (fs := rFp ad_31 32) (fs2 := rFp (va_up ad_31 32 q_221) 33) C hW hini (up_keep hS.1 nq_221) (Nat.le_of_ble_eq_true rfl) rfl dX5_init_223 (fun H locs hW => ?_)
  obtain ⟨M, ad_32, hS, hW⟩ : ∃ (M : wM) (ad : Nat → Nat), RSp cs M X ad 33 ∧ wd D A M s.heap H locs := ⟨_, _, RSp.step hS nq_221, hW⟩
  refine lv_aload_n hx hb dX5_init_226 rfl (lv_at hl 0 rfl) ?_
  refine lv_iconst (v := 4) hx hb dX5_init_227 (by decide) ?_
  refine w_newa (atype := .long) (N' := 4) (a0 := (4, .inr (.inl (fun _ => 0)))) (ty := .long) C hW 1 rfl (fun _ _ h => h) wm_78 rfl (fun _ => rfl) (by decide) (by rfl) (by decide) (by decide) (by decide) dX5_init_228 (fun q_228 H nq_228 hW => ?_)
  refine pf_X5_96 (fs := rFp ad_32 33) (fs2 := rFp (va_up ad_32 33 q_228) 34) C hW hini (up_keep hS.1 nq_228) (Nat.le_of_ble_eq_true rfl) rfl dX5_init_230 (fun H locs hW => ?_)
  obtain ⟨M, ad_33, hS, hW⟩ : ∃ (M : wM) (ad : Nat → Nat), RSp cs M X ad 34 ∧ wd D A M s.heap H locs := ⟨_, _, RSp.step hS nq_228, hW⟩
  refine lv_aload_n hx hb dX5_init_233 rfl (lv_at hl 0 rfl) ?_
  refine lv_iconst (v := 4) hx hb dX5_init_234 (by decide) ?_
  refine w_newa (atype := .long) (N' := 4) (a0 := (4, .inr (.inl (fun _ => 0)))) (ty := .long) C hW 1 rfl (fun _ _ h => h) wm_78 rfl (fun _ => rfl) (by decide) (by rfl) (by decide) (by decide) (by decide) dX5_init_235 (fun q_235 H nq_235 hW => ?_)
  refine pf_X5_99 (fs := rFp ad_33 34) (fs2 := rFp (va_up ad_33 34 q_235) 35) C hW hini (up_keep hS.1 nq_235) (Nat.le_of_ble_eq_true rfl) rfl dX5_init_237 (fun H locs hW => ?_)
  obtain ⟨M, ad_34, hS, hW⟩ : ∃ (M : wM) (ad : Nat → Nat), RSp cs M X ad 35 ∧ wd D A M s.heap H locs := ⟨_, _, RSp.step hS nq_235, hW⟩
  refine lv_aload_n hx hb dX5_init_240 rfl (lv_at hl 0 rfl) ?_
  refine lv_iconst (v := 4) hx hb dX5_init_241 (by decide) ?_
  refine w_newa (atype := .long) (N' := 4) (a0 := (4, .inr (.inl (fun _ => 0)))) (ty := .long) C hW 1 rfl (fun _ _ h => h) wm_78 rfl (fun _ => rfl) (by decide) (by rfl) (by decide) (by decide) (by decide) dX5_init_242 (fun q_242 H nq_242 hW => ?_)
  refine pf_X5_102 (fs := rFp ad_34 35) (fs2 := rFp (va_up ad_34 35 q_242) 36) C hW hini (up_keep hS.1 nq_242) (Nat.le_of_ble_eq_true rfl) rfl dX5_init_244 (fun H locs hW => ?_)
  obtain ⟨M, ad_35, hS, hW⟩ : ∃ (M : wM) (ad : Nat → Nat), RSp cs M X ad 36 ∧ wd D A M s.heap H locs := ⟨_, _, RSp.step hS nq_242, hW⟩
  refine W.widen (k := 31) (n := 1280) (by decide) (by decide) ?_
  exact wr_vret C hW hr hlk (⟨_, RSp.done hS⟩) dX5_init_247


theorem up_o {M : wM} {x a : Nat} {e0 e1 : va_E} {e : Option va_E} (hx : M x = some e0) (ha : M a = some e1) (hne : e1 ≠ e0) : va_up M x e a = some e1 := by
  rw [va_up_ne _ _ (fun z => hne (by rw [z, hx] at ha; exact (Option.some.inj ha).symm))]
  exact ha
theorem k_nx {n w : Nat → Int32} {ad : Nat → Nat} : noteC n ≠ xC w ad := by unfold noteC xC; intro h; cases h
theorem k_kx {k w : Nat → Int32} {a b : Nat} {ad : Nat → Nat} : curC k a b ≠ xC w ad := by unfold curC xC; intro h; cases h
theorem k_px {k w : Nat → Int32} {a b : Nat} {ad : Nat → Nat} : parC k a b ≠ xC w ad := by unfold parC xC; intro h; cases h
theorem k_fx {k w : Nat → Int32} {a b : Nat} {ad : Nat → Nat} : figC k a b ≠ xC w ad := by unfold figC xC; intro h; cases h
theorem k_ax {g w : Nat → Int32} {n : Nat} {cs : Nat → ClassId} {ad : Nat → Nat} : arC cs n g ≠ xC w ad := by unfold arC xC; intro h; cases h
theorem k_rx {w : Nat → Int32} {n : Nat} {c : ClassId} {f : Nat → Option Nat} {ad : Nat → Nat} : rfC c n f ≠ xC w ad := by unfold rfC xC; intro h; cases h
theorem k_xr {w : Nat → Int32} {n : Nat} {c : ClassId} {f : Nat → Option Nat} {ad : Nat → Nat} : xC w ad ≠ rfC c n f := by unfold rfC xC; intro h; cases h
theorem k_nr {k : Nat → Int32} {n : Nat} {c : ClassId} {f : Nat → Option Nat} : noteC k ≠ rfC c n f := by unfold noteC rfC; intro h; cases h
theorem k_kr {k : Nat → Int32} {a b n : Nat} {c : ClassId} {f : Nat → Option Nat} : curC k a b ≠ rfC c n f := by unfold curC rfC; intro h; cases h
theorem k_pr {k : Nat → Int32} {a b n : Nat} {c : ClassId} {f : Nat → Option Nat} : parC k a b ≠ rfC c n f := by unfold parC rfC; intro h; cases h
theorem k_fr {k : Nat → Int32} {a b n : Nat} {c : ClassId} {f : Nat → Option Nat} : figC k a b ≠ rfC c n f := by unfold figC rfC; intro h; cases h
theorem k_ar {g : Nat → Int32} {m n : Nat} {cs : Nat → ClassId} {c : ClassId} {f : Nat → Option Nat} : arC cs m g ≠ rfC c n f := by unfold arC rfC; intro h; cases h
theorem k_rn {c c2 : ClassId} {n n2 : Nat} {f f2 : Nat → Option Nat} (h : n ≠ n2) : rfC c n f ≠ rfC c2 n2 f2 := by unfold rfC; intro q; cases q; exact h rfl
theorem k_na {k g : Nat → Int32} {n : Nat} {cs : Nat → ClassId} : noteC k ≠ arC cs n g := by unfold noteC arC; intro h; cases h
theorem k_ka {k g : Nat → Int32} {a b n : Nat} {cs : Nat → ClassId} : curC k a b ≠ arC cs n g := by unfold curC arC; intro h; cases h
theorem k_pa {k g : Nat → Int32} {a b n : Nat} {cs : Nat → ClassId} : parC k a b ≠ arC cs n g := by unfold parC arC; intro h; cases h
theorem k_fa {k g : Nat → Int32} {a b n : Nat} {cs : Nat → ClassId} : figC k a b ≠ arC cs n g := by unfold figC arC; intro h; cases h
theorem k_xa {w g : Nat → Int32} {n : Nat} {cs : Nat → ClassId} {ad : Nat → Nat} : xC w ad ≠ arC cs n g := by unfold xC arC; intro h; cases h
theorem k_ra {g : Nat → Int32} {n n2 : Nat} {cs : Nat → ClassId} {c : ClassId} {f : Nat → Option Nat} : rfC c n f ≠ arC cs n2 g := by unfold rfC arC; intro h; cases h
theorem k_np {k q : Nat → Int32} {a b : Nat} : noteC k ≠ parC q a b := by unfold noteC parC; intro h; cases h
theorem k_kp {k q : Nat → Int32} {a b c d : Nat} : curC k c d ≠ parC q a b := by unfold curC parC; intro h; cases h
theorem k_fp {k q : Nat → Int32} {a b c d : Nat} : figC k c d ≠ parC q a b := by unfold figC parC; intro h; cases h
theorem k_ap {g q : Nat → Int32} {n a b : Nat} {cs : Nat → ClassId} : arC cs n g ≠ parC q a b := by unfold arC parC; intro h; cases h
theorem k_xp {w q : Nat → Int32} {a b : Nat} {ad : Nat → Nat} : xC w ad ≠ parC q a b := by unfold xC parC; intro h; cases h
theorem k_rp {q : Nat → Int32} {n a b : Nat} {c : ClassId} {f : Nat → Option Nat} : rfC c n f ≠ parC q a b := by unfold rfC parC; intro h; cases h
theorem k_nf {k q : Nat → Int32} {a b : Nat} : noteC k ≠ figC q a b := by unfold noteC figC; intro h; cases h
theorem k_kf {k q : Nat → Int32} {a b c d : Nat} : curC k c d ≠ figC q a b := by unfold curC figC; intro h; cases h
theorem k_pf {k q : Nat → Int32} {a b c d : Nat} : parC k c d ≠ figC q a b := by unfold parC figC; intro h; cases h
theorem k_xf {w q : Nat → Int32} {a b : Nat} {ad : Nat → Nat} : xC w ad ≠ figC q a b := by unfold xC figC; intro h; cases h
theorem k_rf {q : Nat → Int32} {n a b : Nat} {c : ClassId} {f : Nat → Option Nat} : rfC c n f ≠ figC q a b := by unfold rfC figC; intro h; cases h
theorem k_af {g q : Nat → Int32} {n a b : Nat} {cs : Nat → ClassId} : arC cs n g ≠ figC q a b := by unfold arC figC; intro h; cases h
section MV
variable {cs : Nat → ClassId} {lab lab2 : Nat → Nat} {M M2 : wM} {Z : Nat} {ad : Nat → Nat} {w w2 : Nat → Int32} {E E2 : Nat → Nat → Nat → Int32} {J J2 : Nat → Nat → Nat} {nn nb nc np : Nat} {NA BA CA PA NA2 BA2 CA2 PA2 : Nat → Option Nat}
/-- the state over another heap -/
theorem CSx.mv (h : CSx cs lab M Z ad w E J nn nb nc np NA BA CA PA) (hZ : M2 Z = some (xC w2 ad)) (h0 : M2 (ad 0) = some (arC cs 4 (E2 10 0)) ∧ lab2 (ad 0) = 0) (h1 : M2 (ad 1) = some (rfC (cs 5) 60 NA2)) (h2 : M2 (ad 2) = some (rfC (cs 4) 52 BA2)) (h3 : M2 (ad 3) = some (rfC (cs 3) 40 CA2)) (h4 : M2 (ad 4) = some (rfC (cs 6) 80 PA2)) (ht : figAt cs lab2 M2 (ad 5) 1 4 (E2 9 0) (E2 9 1) (E2 9 2))
    (hn : ∀ a n, M a = some (noteC n) → M2 a = some (noteC n)) (hk : ∀ a k x y, M a = some (curC k x y) → M2 a = some (curC k x y))
    (hb : ∀ i, i < nb → ∀ a n f gx gy, figAt cs lab M a (10 + 6 * i) n f gx gy → figAt cs lab2 M2 a (10 + 6 * i) n f gx gy)
    (e0 : ∀ i, i < nn → NA2 i = NA i ∧ E2 0 i = E 0 i) (e1 : ∀ i, i < nb → BA2 i = BA i ∧ E2 1 i = E 1 i ∧ E2 2 i = E 2 i ∧ E2 3 i = E 3 i ∧ J2 0 i = J 0 i) (e4 : ∀ i, i < nc → CA2 i = CA i ∧ E2 4 i = E 4 i ∧ J2 1 i = J 1 i ∧ J2 2 i = J 2 i)
    (hp : ∀ i, i < np → J2 3 i = J 3 i ∧ ∀ a c h a1 a2, PA i = some a → M a = some (parC (E 5 i) c h) → lab a = i → M c = some (curC (E 4 (J 3 i)) a1 a2) → figAt cs lab M h (13 + 6 * i) 4 (E 6 i) (E 7 i) (E 8 i) → PA2 i = some a ∧ M2 a = some (parC (E2 5 i) c h) ∧ lab2 a = i ∧ figAt cs lab2 M2 h (13 + 6 * i) 4 (E2 6 i) (E2 7 i) (E2 8 i)) : CSx cs lab2 M2 Z ad w2 E2 J2 nn nb nc np NA2 BA2 CA2 PA2 := by
  refine ⟨hZ, h0, h1, h2, h3, h4, ht, fun i hi => ?_, fun i hi => ?_, fun i hi => ?_, fun i hi => ?_, fun i hi => ?_, fun i hi => ?_⟩
  · obtain ⟨a, q1, q2⟩ := h.note i hi
    exact ⟨a, (e0 i hi).1.trans q1, by rw [(e0 i hi).2]; exact hn _ _ q2⟩
  · obtain ⟨a, q1, q2, q3⟩ := h.bar i hi
    obtain ⟨k1, k2, k3, k4, k5⟩ := e1 i hi
    exact ⟨a, k1.trans q1, by rw [k5]; exact q2, by rw [k2, k3, k4, k5]; exact hb i hi _ _ _ _ _ q3⟩
  · obtain ⟨a, a1, a2, q1, q2, q3, q4⟩ := h.cur i hi
    obtain ⟨k1, k2, k3, k4⟩ := e4 i hi
    obtain ⟨j1, j2⟩ := h.ji i hi
    exact ⟨a, a1, a2, k1.trans q1, by rw [k2]; exact hk _ _ _ _ q2, by rw [k3, (e0 _ j1).2]; exact hn _ _ q3, by rw [k4, (e0 _ j2).2]; exact hn _ _ q4⟩
  · obtain ⟨a, c, g, a1, a2, q1, q2, q3, q4, q5⟩ := h.part i hi
    obtain ⟨k0, k⟩ := hp i hi
    obtain ⟨k1, k2, k3, k4⟩ := k a c g a1 a2 q1 q2 q3 q4 q5
    exact ⟨a, c, g, a1, a2, k1, k2, k3, by rw [k0, (e4 _ (h.jp i hi)).2.1]; exact hk _ _ _ _ q4, k4⟩
  · obtain ⟨k1, k2, k3, k4⟩ := e4 i hi
    rw [k3, k4]
    exact h.ji i hi
  · rw [(hp i hi).1]
    exact h.jp i hi
theorem figAt.mv {a k n : Nat} {f gx gy : Nat → Int32} (h : figAt cs lab M a k n f gx gy) (hf : ∀ a f x y, M a = some (figC f x y) → M2 a = some (figC f x y)) (ha : ∀ a n g, M a = some (arC cs n g) → lab a ≠ 0 → M2 a = some (arC cs n g)) : figAt cs lab M2 a k n f gx gy := by
  obtain ⟨xa, ya, q1, q2, q3, q4, q5, q6⟩ := h
  exact ⟨xa, ya, hf _ _ _ _ q1, ha _ _ _ q2 (by omega), ha _ _ _ q3 (by omega), q4, q5, q6⟩
/-- only cells outside figures and their rows change -/
theorem CSx.mvO (h : CSx cs lab M Z ad w E J nn nb nc np NA BA CA PA) (hZ : M2 Z = some (xC w2 ad)) (h0 : M2 (ad 0) = some (arC cs 4 (E2 10 0))) (h1 : M2 (ad 1) = some (rfC (cs 5) 60 NA2)) (h2 : M2 (ad 2) = some (rfC (cs 4) 52 BA2)) (h3 : M2 (ad 3) = some (rfC (cs 3) 40 CA2)) (h4 : M2 (ad 4) = some (rfC (cs 6) 80 PA2))
    (hn : ∀ a n, M a = some (noteC n) → M2 a = some (noteC n)) (hk : ∀ a k x y, M a = some (curC k x y) → M2 a = some (curC k x y)) (hpc : ∀ a k x y, M a = some (parC k x y) → M2 a = some (parC k x y)) (hf : ∀ a f x y, M a = some (figC f x y) → M2 a = some (figC f x y)) (ha : ∀ a n g, M a = some (arC cs n g) → lab a ≠ 0 → M2 a = some (arC cs n g))
    (eE : ∀ k, k ≠ 10 → E2 k = E k) (e0 : ∀ i, i < nn → NA2 i = NA i) (e1 : ∀ i, i < nb → BA2 i = BA i) (e4 : ∀ i, i < nc → CA2 i = CA i) (e5 : ∀ i, i < np → PA2 i = PA i) : CSx cs lab M2 Z ad w2 E2 J nn nb nc np NA2 BA2 CA2 PA2 := by
  refine h.mv hZ ⟨h0, h.2.1.2⟩ h1 h2 h3 h4 ?_ hn hk (fun i hi a n f gx gy q => q.mv hf ha) (fun i hi => ⟨e0 i hi, by rw [eE 0 (by decide)]⟩) (fun i hi => ⟨e1 i hi, by rw [eE 1 (by decide)], by rw [eE 2 (by decide)], by rw [eE 3 (by decide)], rfl⟩) (fun i hi => ⟨e4 i hi, by rw [eE 4 (by decide)], rfl, rfl⟩) (fun i hi => ⟨rfl, fun a c g a1 a2 q1 q2 q3 q4 q5 => ⟨(e5 i hi).trans q1, by rw [eE 5 (by decide)]; exact hpc _ _ _ _ q2, q3, ?_⟩⟩)
  · rw [eE 9 (by decide)]; exact h.tr.mv hf ha
  · rw [eE 6 (by decide), eE 7 (by decide), eE 8 (by decide)]; exact q5.mv hf ha
/-- the object's own numbers change -/
theorem CSx.setZ (h : CSx cs lab M Z ad w E J nn nb nc np NA BA CA PA) (w2 : Nat → Int32) : CSx cs lab (va_up M Z (some (xC w2 ad))) Z ad w2 E J nn nb nc np NA BA CA PA :=
  h.mvO (va_up_self _ _ _) (up_o h.z h.wd k_ax) (up_o h.z h.na k_rx) (up_o h.z h.ba k_rx) (up_o h.z h.ca k_rx) (up_o h.z h.pa k_rx) (fun _ _ q => up_o h.z q k_nx) (fun _ _ _ _ q => up_o h.z q k_kx) (fun _ _ _ _ q => up_o h.z q k_px) (fun _ _ _ _ q => up_o h.z q k_fx) (fun _ _ _ q _ => up_o h.z q k_ax) (fun _ _ => rfl) (fun _ _ => rfl) (fun _ _ => rfl) (fun _ _ => rfl) (fun _ _ => rfl)
/-- a width is set -/
theorem CSx.setW (h : CSx cs lab M Z ad w E J nn nb nc np NA BA CA PA) (W : Nat → Int32) : CSx cs lab (va_up M (ad 0) (some (arC cs 4 W))) Z ad w (va_up E 10 (va_up (E 10) 0 W)) J nn nb nc np NA BA CA PA := by
  refine h.mvO (up_o h.wd h.z k_xa) ?_ (up_o h.wd h.na k_ra) (up_o h.wd h.ba k_ra) (up_o h.wd h.ca k_ra) (up_o h.wd h.pa k_ra) (fun _ _ q => up_o h.wd q k_na) (fun _ _ _ _ q => up_o h.wd q k_ka) (fun _ _ _ _ q => up_o h.wd q k_pa) (fun _ _ _ _ q => up_o h.wd q k_fa) (fun a n g q hl => ?_) (fun k hk => va_up_ne _ _ hk) (fun _ _ => rfl) (fun _ _ => rfl) (fun _ _ => rfl) (fun _ _ => rfl)
  · rw [va_up_self, va_up_self, va_up_self]
  · rw [va_up_ne _ _ (fun z => hl (by rw [z]; exact h.2.1.2))]; exact q
theorem CSx.setNA (h : CSx cs lab M Z ad w E J nn nb nc np NA BA CA PA) (f : Nat → Option Nat) (hf : ∀ i, i < nn → f i = NA i) : CSx cs lab (va_up M (ad 1) (some (rfC (cs 5) 60 f))) Z ad w E J nn nb nc np f BA CA PA :=
  h.mvO (up_o h.na h.z k_xr) (up_o h.na h.wd k_ar) (va_up_self _ _ _) (up_o h.na h.ba (k_rn (by decide))) (up_o h.na h.ca (k_rn (by decide))) (up_o h.na h.pa (k_rn (by decide))) (fun _ _ q => up_o h.na q k_nr) (fun _ _ _ _ q => up_o h.na q k_kr) (fun _ _ _ _ q => up_o h.na q k_pr) (fun _ _ _ _ q => up_o h.na q k_fr) (fun _ _ _ q _ => up_o h.na q k_ar) (fun _ _ => rfl) hf (fun _ _ => rfl) (fun _ _ => rfl) (fun _ _ => rfl)
theorem CSx.setBA (h : CSx cs lab M Z ad w E J nn nb nc np NA BA CA PA) (f : Nat → Option Nat) (hf : ∀ i, i < nb → f i = BA i) : CSx cs lab (va_up M (ad 2) (some (rfC (cs 4) 52 f))) Z ad w E J nn nb nc np NA f CA PA :=
  h.mvO (up_o h.ba h.z k_xr) (up_o h.ba h.wd k_ar) (up_o h.ba h.na (k_rn (by decide))) (va_up_self _ _ _) (up_o h.ba h.ca (k_rn (by decide))) (up_o h.ba h.pa (k_rn (by decide))) (fun _ _ q => up_o h.ba q k_nr) (fun _ _ _ _ q => up_o h.ba q k_kr) (fun _ _ _ _ q => up_o h.ba q k_pr) (fun _ _ _ _ q => up_o h.ba q k_fr) (fun _ _ _ q _ => up_o h.ba q k_ar) (fun _ _ => rfl) (fun _ _ => rfl) hf (fun _ _ => rfl) (fun _ _ => rfl)
theorem CSx.setCA (h : CSx cs lab M Z ad w E J nn nb nc np NA BA CA PA) (f : Nat → Option Nat) (hf : ∀ i, i < nc → f i = CA i) : CSx cs lab (va_up M (ad 3) (some (rfC (cs 3) 40 f))) Z ad w E J nn nb nc np NA BA f PA :=
  h.mvO (up_o h.ca h.z k_xr) (up_o h.ca h.wd k_ar) (up_o h.ca h.na (k_rn (by decide))) (up_o h.ca h.ba (k_rn (by decide))) (va_up_self _ _ _) (up_o h.ca h.pa (k_rn (by decide))) (fun _ _ q => up_o h.ca q k_nr) (fun _ _ _ _ q => up_o h.ca q k_kr) (fun _ _ _ _ q => up_o h.ca q k_pr) (fun _ _ _ _ q => up_o h.ca q k_fr) (fun _ _ _ q _ => up_o h.ca q k_ar) (fun _ _ => rfl) (fun _ _ => rfl) (fun _ _ => rfl) hf (fun _ _ => rfl)
theorem CSx.setPA (h : CSx cs lab M Z ad w E J nn nb nc np NA BA CA PA) (f : Nat → Option Nat) (hf : ∀ i, i < np → f i = PA i) : CSx cs lab (va_up M (ad 4) (some (rfC (cs 6) 80 f))) Z ad w E J nn nb nc np NA BA CA f :=
  h.mvO (up_o h.pa h.z k_xr) (up_o h.pa h.wd k_ar) (up_o h.pa h.na (k_rn (by decide))) (up_o h.pa h.ba (k_rn (by decide))) (up_o h.pa h.ca (k_rn (by decide))) (va_up_self _ _ _) (fun _ _ q => up_o h.pa q k_nr) (fun _ _ _ _ q => up_o h.pa q k_kr) (fun _ _ _ _ q => up_o h.pa q k_pr) (fun _ _ _ _ q => up_o h.pa q k_fr) (fun _ _ _ q _ => up_o h.pa q k_ar) (fun _ _ => rfl) (fun _ _ => rfl) (fun _ _ => rfl) (fun _ _ => rfl) hf
theorem figAt.relab {a k n : Nat} {f gx gy : Nat → Int32} (h : figAt cs lab M a k n f gx gy) (hl : ∀ a e, M a = some e → lab2 a = lab a) : figAt cs lab2 M a k n f gx gy := by
  obtain ⟨xa, ya, q1, q2, q3, q4, q5, q6⟩ := h
  exact ⟨xa, ya, q1, q2, q3, (hl _ _ q1).trans q4, (hl _ _ q2).trans q5, (hl _ _ q3).trans q6⟩
/-- labels of cells that are not there yet -/
theorem CSx.relab (h : CSx cs lab M Z ad w E J nn nb nc np NA BA CA PA) (hl : ∀ a e, M a = some e → lab2 a = lab a) : CSx cs lab2 M Z ad w E J nn nb nc np NA BA CA PA :=
  h.mv h.z ⟨h.wd, (hl _ _ h.wd).trans h.2.1.2⟩ h.na h.ba h.ca h.pa (h.tr.relab hl) (fun _ _ q => q) (fun _ _ _ _ q => q) (fun _ _ _ _ _ _ _ q => q.relab hl) (fun _ _ => ⟨rfl, rfl⟩) (fun _ _ => ⟨rfl, rfl, rfl, rfl, rfl⟩) (fun _ _ => ⟨rfl, rfl, rfl, rfl⟩) (fun _ _ => ⟨rfl, fun _ _ _ _ _ q1 q2 q3 _ q5 => ⟨q1, q2, (hl _ _ q2).trans q3, q5.relab hl⟩⟩)
/-- new cells come -/
theorem CSx.more (h : CSx cs lab M Z ad w E J nn nb nc np NA BA CA PA) (hm : ∀ a e, M a = some e → M2 a = some e) : CSx cs lab M2 Z ad w E J nn nb nc np NA BA CA PA :=
  h.mvO (hm _ _ h.z) (hm _ _ h.wd) (hm _ _ h.na) (hm _ _ h.ba) (hm _ _ h.ca) (hm _ _ h.pa) (fun _ _ q => hm _ _ q) (fun _ _ _ _ q => hm _ _ q) (fun _ _ _ _ q => hm _ _ q) (fun _ _ _ _ q => hm _ _ q) (fun _ _ _ q _ => hm _ _ q) (fun _ _ => rfl) (fun _ _ => rfl) (fun _ _ => rfl) (fun _ _ => rfl) (fun _ _ => rfl)
/-- nothing is left -/
theorem CSx.zero (h : CSx cs lab M Z ad w E J nn nb nc np NA BA CA PA) : CSx cs lab M Z ad w E J 0 0 0 0 NA BA CA PA :=
  ⟨h.1, h.2.1, h.2.2.1, h.2.2.2.1, h.2.2.2.2.1, h.2.2.2.2.2.1, h.2.2.2.2.2.2.1, fun _ q => absurd q (Nat.not_lt_zero _), fun _ q => absurd q (Nat.not_lt_zero _), fun _ q => absurd q (Nat.not_lt_zero _), fun _ q => absurd q (Nat.not_lt_zero _), fun _ q => absurd q (Nat.not_lt_zero _), fun _ q => absurd q (Nat.not_lt_zero _)⟩
/-- figures under a change of another one -/
theorem figAt.sfg {a k n b xb yb n2 k0 : Nat} {f gx gy f1 gx1 gy1 f2 gx2 gy2 : Nat → Int32} (h : figAt cs lab M a k n f gx gy) (hb : M b = some (figC f1 xb yb)) (hxb : M xb = some (arC cs n2 gx1)) (hyb : M yb = some (arC cs n2 gy1)) (l1 : lab b = k0) (l2 : lab xb = k0 + 1) (l3 : lab yb = k0 + 2) (hk : k % 3 = 1) (hk0 : k0 % 3 = 1) (hne : k ≠ k0) : figAt cs lab (sfg cs M b xb yb n2 f2 gx2 gy2) a k n f gx gy := by
  obtain ⟨xa, ya, q1, q2, q3, q4, q5, q6⟩ := h
  refine ⟨xa, ya, ?_, ?_, ?_, q4, q5, q6⟩
  · rw [sfg_o (fun z => by rw [z] at q4; omega) (ne_fa q1 hxb) (ne_fa q1 hyb)]; exact q1
  · rw [sfg_o (ne_fa hb q2).symm (fun z => by rw [z] at q5; omega) (fun z => by rw [z] at q5; omega)]; exact q2
  · rw [sfg_o (ne_fa hb q3).symm (fun z => by rw [z] at q6; omega) (fun z => by rw [z] at q6; omega)]; exact q3
theorem sfg_k {b xb yb n2 a : Nat} {e1 : va_E} {f1 gx1 gy1 f2 gx2 gy2 : Nat → Int32} (hb : M b = some (figC f1 xb yb)) (hxb : M xb = some (arC cs n2 gx1)) (hyb : M yb = some (arC cs n2 gy1)) (q : M a = some e1) (n1 : ∀ f x y, e1 ≠ figC f x y) (n3 : ∀ n g, e1 ≠ arC cs n g) : sfg cs M b xb yb n2 f2 gx2 gy2 a = some e1 := by
  rw [sfg_o (fun z => n1 _ _ _ (by rw [z, hb] at q; exact (Option.some.inj q).symm)) (fun z => n3 _ _ (by rw [z, hxb] at q; exact (Option.some.inj q).symm)) (fun z => n3 _ _ (by rw [z, hyb] at q; exact (Option.some.inj q).symm))]
  exact q
theorem sfg_wd {b xb yb n2 a k0 : Nat} {g f1 f2 gx2 gy2 : Nat → Int32} (hb : M b = some (figC f1 xb yb)) (l2 : lab xb = k0 + 1) (l3 : lab yb = k0 + 2) (q : M a = some (arC cs 4 g)) (hl : lab a = 0) : sfg cs M b xb yb n2 f2 gx2 gy2 a = some (arC cs 4 g) := by
  rw [sfg_o (ne_fa hb q).symm (fun z => by rw [z] at hl; omega) (fun z => by rw [z] at hl; omega)]
  exact q
/-- the trial is drawn -/
theorem CSx.drawT (h : CSx cs lab M Z ad w E J nn nb nc np NA BA CA PA) {xb yb : Nat} (hb : M (ad 5) = some (figC (E 9 0) xb yb)) (hxb : M xb = some (arC cs 4 (E 9 1))) (hyb : M yb = some (arC cs 4 (E 9 2))) (l1 : lab (ad 5) = 1) (l2 : lab xb = 1 + 1) (l3 : lab yb = 1 + 2) (f gx gy : Nat → Int32) : CSx cs lab (sfg cs M (ad 5) xb yb 4 f gx gy) Z ad w (va_up E 9 (fun k => if k = 0 then f else if k = 1 then gx else gy)) J nn nb nc np NA BA CA PA := by
  have hxy : xb ≠ yb := fun z => by rw [z] at l2; omega
  have hbx := ne_fa hb hxb
  have hby := ne_fa hb hyb
  have eE : ∀ k, k ≠ 9 → va_up E 9 (fun k => if k = 0 then f else if k = 1 then gx else gy) k = E k := fun k hk => va_up_ne _ _ hk
  refine h.mv (sfg_k hb hxb hyb h.z (fun _ _ _ => k_xf) (fun _ _ => k_xa)) ⟨?_, h.2.1.2⟩ (sfg_k hb hxb hyb h.na (fun _ _ _ => k_rf) (fun _ _ => k_ra)) (sfg_k hb hxb hyb h.ba (fun _ _ _ => k_rf) (fun _ _ => k_ra)) (sfg_k hb hxb hyb h.ca (fun _ _ _ => k_rf) (fun _ _ => k_ra)) (sfg_k hb hxb hyb h.pa (fun _ _ _ => k_rf) (fun _ _ => k_ra)) ?_ (fun _ _ q => sfg_k hb hxb hyb q (fun _ _ _ => k_nf) (fun _ _ => k_na)) (fun _ _ _ _ q => sfg_k hb hxb hyb q (fun _ _ _ => k_kf) (fun _ _ => k_ka)) (fun i hi a n f gx gy q => q.sfg hb hxb hyb l1 l2 l3 (by omega) (by decide) (by omega)) (fun i hi => ⟨rfl, by rw [eE 0 (by decide)]⟩) (fun i hi => ⟨rfl, by rw [eE 1 (by decide)], by rw [eE 2 (by decide)], by rw [eE 3 (by decide)], rfl⟩) (fun i hi => ⟨rfl, by rw [eE 4 (by decide)], rfl, rfl⟩) (fun i hi => ⟨rfl, fun a c g a1 a2 q1 q2 q3 q4 q5 => ⟨q1, by rw [eE 5 (by decide)]; exact sfg_k hb hxb hyb q2 (fun _ _ _ => k_pf) (fun _ _ => k_pa), q3, ?_⟩⟩)
  · rw [eE 10 (by decide)]; exact sfg_wd hb l2 l3 h.wd h.2.1.2
  · rw [va_up_self]; exact ⟨xb, yb, sfg_b hbx hby hxy, sfg_x hbx hby hxy, sfg_y hbx hby hxy, l1, l2, l3⟩
  · rw [eE 6 (by decide), eE 7 (by decide), eE 8 (by decide)]; exact q5.sfg hb hxb hyb l1 l2 l3 (by omega) (by decide) (by omega)
/-- part p's hull is drawn -/
theorem CSx.drawH (h : CSx cs lab M Z ad w E J nn nb nc np NA BA CA PA) {p b xb yb : Nat} (hp : p < np) (hb : M b = some (figC (E 6 p) xb yb)) (hxb : M xb = some (arC cs 4 (E 7 p))) (hyb : M yb = some (arC cs 4 (E 8 p))) (l1 : lab b = 13 + 6 * p) (l2 : lab xb = 13 + 6 * p + 1) (l3 : lab yb = 13 + 6 * p + 2) (f gx gy : Nat → Int32) (hu : ∀ a c g, PA p = some a → M a = some (parC (E 5 p) c g) → g = b) : CSx cs lab (sfg cs M b xb yb 4 f gx gy) Z ad w (va_up (va_up (va_up E 6 (va_up (E 6) p f)) 7 (va_up (E 7) p gx)) 8 (va_up (E 8) p gy)) J nn nb nc np NA BA CA PA := by
  have hxy : xb ≠ yb := fun z => by rw [z] at l2; omega
  have hbx := ne_fa hb hxb
  have hby := ne_fa hb hyb
  have eE : ∀ k, k ≠ 6 → k ≠ 7 → k ≠ 8 → va_up (va_up (va_up E 6 (va_up (E 6) p f)) 7 (va_up (E 7) p gx)) 8 (va_up (E 8) p gy) k = E k := fun k h6 h7 h8 => by rw [va_up_ne _ _ h8, va_up_ne _ _ h7, va_up_ne _ _ h6]
  have e6 : va_up (va_up (va_up E 6 (va_up (E 6) p f)) 7 (va_up (E 7) p gx)) 8 (va_up (E 8) p gy) 6 = va_up (E 6) p f := by rw [va_up_ne _ _ (by decide), va_up_ne _ _ (by decide), va_up_self]
  have e7 : va_up (va_up (va_up E 6 (va_up (E 6) p f)) 7 (va_up (E 7) p gx)) 8 (va_up (E 8) p gy) 7 = va_up (E 7) p gx := by rw [va_up_ne _ _ (by decide), va_up_self]
  have e8 : va_up (va_up (va_up E 6 (va_up (E 6) p f)) 7 (va_up (E 7) p gx)) 8 (va_up (E 8) p gy) 8 = va_up (E 8) p gy := by rw [va_up_self]
  refine h.mv (sfg_k hb hxb hyb h.z (fun _ _ _ => k_xf) (fun _ _ => k_xa)) ⟨?_, h.2.1.2⟩ (sfg_k hb hxb hyb h.na (fun _ _ _ => k_rf) (fun _ _ => k_ra)) (sfg_k hb hxb hyb h.ba (fun _ _ _ => k_rf) (fun _ _ => k_ra)) (sfg_k hb hxb hyb h.ca (fun _ _ _ => k_rf) (fun _ _ => k_ra)) (sfg_k hb hxb hyb h.pa (fun _ _ _ => k_rf) (fun _ _ => k_ra)) ?_ (fun _ _ q => sfg_k hb hxb hyb q (fun _ _ _ => k_nf) (fun _ _ => k_na)) (fun _ _ _ _ q => sfg_k hb hxb hyb q (fun _ _ _ => k_kf) (fun _ _ => k_ka)) (fun i hi a n f gx gy q => q.sfg hb hxb hyb l1 l2 l3 (by omega) (by omega) (by omega)) (fun i hi => ⟨rfl, by rw [eE 0 (by decide) (by decide) (by decide)]⟩) (fun i hi => ⟨rfl, by rw [eE 1 (by decide) (by decide) (by decide)], by rw [eE 2 (by decide) (by decide) (by decide)], by rw [eE 3 (by decide) (by decide) (by decide)], rfl⟩) (fun i hi => ⟨rfl, by rw [eE 4 (by decide) (by decide) (by decide)], rfl, rfl⟩) (fun i hi => ⟨rfl, fun a c g a1 a2 q1 q2 q3 q4 q5 => ⟨q1, by rw [eE 5 (by decide) (by decide) (by decide)]; exact sfg_k hb hxb hyb q2 (fun _ _ _ => k_pf) (fun _ _ => k_pa), q3, ?_⟩⟩)
  · rw [eE 10 (by decide) (by decide) (by decide)]; exact sfg_wd hb l2 l3 h.wd h.2.1.2
  · rw [eE 9 (by decide) (by decide) (by decide)]; exact h.tr.sfg hb hxb hyb l1 l2 l3 (by decide) (by omega) (by omega)
  · rw [e6, e7, e8]
    by_cases z : i = p
    · subst z
      rw [va_up_self, va_up_self, va_up_self, hu a c g q1 q2]
      exact ⟨xb, yb, sfg_b hbx hby hxy, sfg_x hbx hby hxy, sfg_y hbx hby hxy, l1, l2, l3⟩
    · rw [va_up_ne _ _ z, va_up_ne _ _ z, va_up_ne _ _ z]
      exact q5.sfg hb hxb hyb l1 l2 l3 (by omega) (by omega) (by omega)
/-- a part's own numbers change -/
theorem CSx.setP (h : CSx cs lab M Z ad w E J nn nb nc np NA BA CA PA) {p a c g : Nat} (hp : p < np) (ha : PA p = some a) (hm : M a = some (parC (E 5 p) c g)) (l : lab a = p) (q : Nat → Int32) : CSx cs lab (va_up M a (some (parC q c g))) Z ad w (va_up E 5 (va_up (E 5) p q)) J nn nb nc np NA BA CA PA := by
  have eE : ∀ k, k ≠ 5 → va_up E 5 (va_up (E 5) p q) k = E k := fun k hk => va_up_ne _ _ hk
  have hf : ∀ b f x y, M b = some (figC f x y) → va_up M a (some (parC q c g)) b = some (figC f x y) := fun _ _ _ _ z => up_o hm z k_fp
  have hr : ∀ b n g2, M b = some (arC cs n g2) → lab b ≠ 0 → va_up M a (some (parC q c g)) b = some (arC cs n g2) := fun _ _ _ z _ => up_o hm z k_ap
  refine h.mv (up_o hm h.z k_xp) ⟨?_, h.2.1.2⟩ (up_o hm h.na k_rp) (up_o hm h.ba k_rp) (up_o hm h.ca k_rp) (up_o hm h.pa k_rp) ?_ (fun _ _ z => up_o hm z k_np) (fun _ _ _ _ z => up_o hm z k_kp) (fun i hi a n f gx gy z => z.mv hf hr) (fun i hi => ⟨rfl, by rw [eE 0 (by decide)]⟩) (fun i hi => ⟨rfl, by rw [eE 1 (by decide)], by rw [eE 2 (by decide)], by rw [eE 3 (by decide)], rfl⟩) (fun i hi => ⟨rfl, by rw [eE 4 (by decide)], rfl, rfl⟩) (fun i hi => ⟨rfl, fun a2 c2 g2 a3 a4 q1 q2 q3 q4 q5 => ⟨q1, ?_, q3, ?_⟩⟩)
  · rw [eE 10 (by decide)]; exact up_o hm h.wd k_ap
  · rw [eE 9 (by decide)]; exact h.tr.mv hf hr
  · rw [va_up_self]
    by_cases z : i = p
    · subst z
      have e1 : a2 = a := Option.some.inj (q1.symm.trans ha)
      subst e1
      rw [va_up_self, va_up_self]
      have e2 := Option.some.inj (q2.symm.trans hm)
      unfold parC at e2 ⊢
      cases e2
      rfl
    · rw [va_up_ne _ _ z, va_up_ne _ _ (fun y => z (by rw [y, l] at q3; exact q3.symm))]
      exact q2
  · rw [eE 6 (by decide), eE 7 (by decide), eE 8 (by decide)]; exact q5.mv hf hr
end MV

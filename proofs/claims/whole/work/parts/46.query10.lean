/-! need: p POINTS wherever there is no MARK -/
def opn (V : VT) (a e : Nat) : Bool := decide (vmk V a e = -1)
def mnI (x y : Int32) : Int32 := if y < x then y else x
def mnO (V : VT) (a : Nat) : Nat → Int32
  | 0 => nI 2000
  | n + 1 => if vmk V a n = -1 then mnI (mnO V a n) (topS (vev V n)) else mnO V a n
def opP (V : VT) (a : Nat) (v : Int32) (e : Nat) : Int32 := if e < vE V ∧ vmk V a e = -1 then v else ptM V (vmk V) a e
def opG (V : VT) (a : Nat) (e : Nat) : Bool := if e < vE V ∧ vmk V a e = -1 then true else gM (vmk V) a e
def ndF (V : VT) (a : Nat) (n : Int32) (k : Nat) : Bool := decide (n ≤ sumN (opP V a (nI k)) (vE V) + paidS V (opP V a (nI k)) (opG V a))
def mstO (V : VT) (a : Nat) : Int32 := if cnt (opn V a) (vE V) = 0 then nI 0 else mnO V a (vE V)
theorem mnO_rng {V : VT} (hV : WV V) (a : Nat) : ∀ {n : Nat}, n ≤ vE V → 0 ≤ (mnO V a n).toInt ∧ (mnO V a n).toInt ≤ 2000
  | 0, _ => by rw [mnO]; exact ⟨by decide, by decide⟩
  | n + 1, h => by
    have ih := mnO_rng hV a (n := n) (by omega)
    have ht := pts_rng (hV.2.2.2.2.1 n (by omega)) (mkBy (vev V n) 99999)
    rw [mnO]
    by_cases c : vmk V a n = -1
    · rw [if_pos c]
      unfold mnI
      by_cases q : topS (vev V n) < mnO V a n
      · rw [if_pos q]; exact ht
      · rw [if_neg q]; exact ih
    · rw [if_neg c]; exact ih
theorem mnO_no {V : VT} {a : Nat} : ∀ {n : Nat}, cnt (opn V a) n = 0 → mnO V a n = nI 2000
  | 0, _ => rfl
  | n + 1, h => by
    rw [cnt] at h
    have h1 : cnt (opn V a) n = 0 := by omega
    have h2 : ¬ vmk V a n = -1 := fun z => by
      have : opn V a n = true := by simp [opn, z]
      rw [if_pos this] at h; omega
    rw [mnO, if_neg h2]; exact mnO_no h1
theorem op_pz {V : VT} (hV : WV V) {a : Nat} (ha : a < vA V) {v : Int32} (hv : 0 ≤ v.toInt ∧ v.toInt ≤ 2000) : pz (opP V a v) (opG V a) (vE V) := fun j hj => by
  unfold opP opG
  by_cases c : vmk V a j = -1
  · rw [if_pos ⟨hj, c⟩, if_pos ⟨hj, c⟩]; exact ⟨hv, fun z => absurd z (by decide)⟩
  · rw [if_neg (fun z => c z.2), if_neg (fun z => c z.2)]; exact pza_M hV (vmk V) a ha j hj
theorem cnt_none {V : VT} {a e n : Nat} (h : cnt (opn V a) n = 0) (he : e < n) : ¬ vmk V a e = -1 := fun z => by
  have := cnt_pos (f := opn V a) he (by simp [opn, z])
  omega
/-- none open: each p is like the first -/
theorem nd_const {V : VT} {a : Nat} {n : Int32} (h : cnt (opn V a) (vE V) = 0) (k : Nat) : ndF V a n k = ndF V a n 0 := by
  unfold ndF
  have e1 : ∀ v : Int32, opP V a v = ptM V (vmk V) a := fun v => funext (fun j => if_neg (fun z => cnt_none h z.1 z.2))
  rw [e1, e1]
theorem fst1_const {f : Nat → Bool} : ∀ {m i : Nat}, (∀ k, f k = f 0) → ¬ f 0 = true → fst1 f m i = -1
  | 0, _, _, _ => rfl
  | m + 1, i, h, h0 => by rw [fst1, if_neg (by rw [h i]; exact h0), fst1_const h h0]
theorem nd_more {V : VT} {a : Nat} {n : Int32} (h : cnt (opn V a) (vE V) = 0) : fst1 (ndF V a n) 2001 0 = fst1 (ndF V a n) 1 0 := by
  by_cases c : ndF V a n 0 = true
  · rw [show (2001 : Nat) = 2000 + 1 from rfl, fst1, if_pos c, show (1 : Nat) = 0 + 1 from rfl, fst1, if_pos c]
  · rw [fst1_const (fun k => nd_const h k) c, fst1_const (fun k => nd_const h k) c]
theorem opn_t {V : VT} {a e : Nat} (h : vmk V a e = -1) : opn V a e = true := by simp [opn, h]
theorem opn_f {V : VT} {a e : Nat} (h : ¬ vmk V a e = -1) : ¬ opn V a e = true := by simp [opn, h]
theorem mnO_t {V : VT} {a n : Nat} (h : vmk V a n = -1) : mnO V a (n + 1) = (if topS (vev V n) < mnO V a n then topS (vev V n) else mnO V a n) := by rw [mnO, if_pos h]; rfl
theorem mnO_f {V : VT} {a n : Nat} (h : ¬ vmk V a n = -1) : mnO V a (n + 1) = mnO V a n := by rw [mnO, if_neg h]
theorem flag_t {f : Nat → Bool} {n : Nat} (h : f n = true) : nI 1 = b2 (¬ cnt f (n + 1) = 0) := b2_t (by rw [cnt_t h]; omega)
theorem flag_f {f : Nat → Bool} {n : Nat} (h : ¬ f n = true) : b2 (¬ cnt f n = 0) = b2 (¬ cnt f (n + 1) = 0) := by rw [cnt_f h]
set_option maxRecDepth 20000 in
theorem c_mostInOpen (l : Launch) (G : GT) {c : Nat} (hc : isC c) {I : Nat → Nat → Int32} {L : Nat → Nat → Int64} {R : Nat → Nat → Option Nat} (hL : Lay R) (hr5 : R 0 5 = some c) {V : VT} (hV : WV V) (hT : CT I c V) (a : Nat) (ha : a < vA V) : Mt l G mX11_mostInOpen (4) 0 0 [.ref (ra G 0), .int (nI a)] (wd I L R) (pV (.int (mstO V a)) (wd I L R)) := by
  refine mt_of (own := RX11) (by decide) rfl rfl (fun Z C P B => ?_)
  have D := @dc_of _ _ dX11_mostInOpen
  have hE10 := hV.1
  have Lp : ∀ (m e : Nat), e + m = vE V → J Z (0, 0) 9 [some (.ref (ra G 0)), some (.int (nI a)), some (.int (mnO V a e)), some (.int (b2 (¬ cnt (opn V a) e = 0))), some (.int (nI e))] [] (wd I L R) := by
    intro m
    induction m with
    | zero =>
      intro e he
      refine j_iload C (D 6 rfl) rfl ?_
      refine j_aload_n C (D 7 rfl) rfl ?_
      refine j_getr C f_X11_37 (lit (kd := 11) (n := 12) rfl) rfl rfl hr5 (D 8 rfl) ?_
      refine j_geti C f_X11_98 (sC0 hc) rfl rfl (D 9 rfl) ?_
      rw [hT.1]
      refine j_icmp_ge C  61 (D 10 rfl) (by decide) (fun h18 => ?_) (fun h18 => absurd h18 (fun z => z ((nle (by omega) (by omega)).mpr (by omega))))
      refine j_iload_n C (D 31 rfl) rfl ?_
      refine j_if_eq C  69 (D 32 rfl) (by decide) (fun h62 => ?_) (fun h62 => ?_)
      · refine j_iconst C (v := nI 0) (D 35 rfl) rfl ?_
        exact j_iret C P rfl (D 36 rfl) ⟨Nat.le_refl _, Nat.le_refl _⟩ (pv_i (by rw [mstO, if_pos (by have z := b2_eq h62; rw [show vE V = e by omega]; omega)]))
      · refine j_iload_n C (D 33 rfl) rfl ?_
        refine j_goto C 70 (D 34 rfl) (by decide) ?_
        exact j_iret C P rfl (D 36 rfl) ⟨Nat.le_refl _, Nat.le_refl _⟩ (pv_i (by rw [mstO, if_neg (by have z := b2_ne h62; rw [show vE V = e by omega]; exact z), show vE V = e by omega]))
    | succ m ih =>
      intro e he
      have he10 : e < 10 := by omega
      refine j_iload C (D 6 rfl) rfl ?_
      refine j_aload_n C (D 7 rfl) rfl ?_
      refine j_getr C f_X11_37 (lit (kd := 11) (n := 12) rfl) rfl rfl hr5 (D 8 rfl) ?_
      refine j_geti C f_X11_98 (sC0 hc) rfl rfl (D 9 rfl) ?_
      rw [hT.1]
      refine j_icmp_ge C  61 (D 10 rfl) (by decide) (fun h18 => absurd h18 (fun z => by rw [nle (by omega) (by omega)] at z; omega)) (fun h18 => ?_)
      refine j_aload_n C (D 11 rfl) rfl ?_
      refine j_getr C f_X11_37 (lit (kd := 11) (n := 12) rfl) rfl rfl hr5 (D 12 rfl) ?_
      refine j_iload_n C (D 13 rfl) rfl ?_
      refine j_iload C (D 14 rfl) rfl ?_
      refine j_cVp C B k_X11_178 (rc_obj C (sC0 hc) rfl rfl) (c_markOf _ _ hc hL hV hT a e ha he10) rfl rfl rfl rfl ⟨Nat.le_refl _, Nat.le_refl _⟩ (D 15 rfl) ?_
      refine j_iconst C (v := (-1)) (D 16 rfl) rfl ?_
      refine j_icmp_ne C  55 (D 17 rfl) (by decide) (fun h32 => ?_) (fun h32 => ?_)
      · first | refine j_iinc1 C (D 29 rfl) rfl rfl ?_ | refine j_iinc C (D 29 rfl) rfl rfl rfl ?_
        refine j_goto C 9 (D 30 rfl) (by decide) ?_
        have hq := ih (e + 1) (by omega)
        rw [mnO_f h32, ← flag_f (opn_f h32)] at hq
        exact hq
      · refine j_iconst C (v := nI 1) (D 18 rfl) rfl ?_
        refine j_istore_n C (D 19 rfl) rfl ?_
        refine j_iload_n C (D 20 rfl) rfl ?_
        refine j_aload_n C (D 21 rfl) rfl ?_
        refine j_getr C f_X11_37 (lit (kd := 11) (n := 12) rfl) rfl rfl hr5 (D 22 rfl) ?_
        refine j_getr C f_X11_124 (sC0 hc) rfl rfl (hL _ _ _ (rC0 hc)) (D 23 rfl) ?_
        refine j_iload C (D 24 rfl) rfl ?_
        refine j_aald C (kd := 1) (sC1 hc) rfl (ix_n he10 (by decide)) (hL _ _ _ (rCT hc he10)) (D 25 rfl) ?_
        refine j_cVp C B k_X11_165 (rc_obj C (sT0 (isT_of hc he10)) rfl rfl) (c_mostValue _ _ (isT_of hc he10) hL (hV.2.2.2.2.1 e (by omega)) (hT.2.2.2.2.1 e (by omega))) rfl rfl rfl rfl ⟨Nat.le_refl _, Nat.le_refl _⟩ (D 26 rfl) ?_
        refine j_mmin C B k_X11_354 rfl rfl ⟨Nat.le_refl _, Nat.le_refl _⟩ (D 27 rfl) ?_
        refine j_istore_n C (D 28 rfl) rfl ?_
        first | refine j_iinc1 C (D 29 rfl) rfl rfl ?_ | refine j_iinc C (D 29 rfl) rfl rfl rfl ?_
        refine j_goto C 9 (D 30 rfl) (by decide) ?_
        have hq := ih (e + 1) (by omega)
        rw [mnO_t h32, ← flag_t (opn_t h32)] at hq
        exact hq
  refine j_sipush C (v := nI 2000) (D 0 rfl) rfl ?_
  refine j_istore_n C (D 1 rfl) rfl ?_
  refine j_iconst C (v := nI 0) (D 2 rfl) rfl ?_
  refine j_istore_n C (D 3 rfl) rfl ?_
  refine j_iconst C (v := nI 0) (D 4 rfl) rfl ?_
  refine j_istore C (D 5 rfl) rfl ?_
  exact Lp (vE V) 0 (by omega)
/-- the first n EVENTS are put -/
def opq (V : VT) (a n : Nat) (v : Int32) (p : Nat → Int32) (e : Nat) : Int32 := if e < n ∧ e < vE V ∧ vmk V a e = -1 then v else p e
def opg (V : VT) (a n : Nat) (g : Nat → Bool) (e : Nat) : Bool := if e < n ∧ e < vE V ∧ vmk V a e = -1 then true else g e
theorem opq_s {V : VT} {a n : Nat} {v : Int32} {p : Nat → Int32} (h : n < vE V ∧ vmk V a n = -1) : va_up (opq V a n v p) n v = opq V a (n + 1) v p := by
  funext e
  by_cases q : e = n
  · subst q; rw [vu_same, opq, if_pos ⟨by omega, h⟩]
  · rw [vu_ne _ _ q]; unfold opq
    by_cases z : e < n ∧ e < vE V ∧ vmk V a e = -1
    · rw [if_pos z, if_pos ⟨by omega, z.2⟩]
    · rw [if_neg z, if_neg (fun y => z ⟨by omega, y.2⟩)]
theorem opg_s {V : VT} {a n : Nat} {g : Nat → Bool} (h : n < vE V ∧ vmk V a n = -1) : va_up (opg V a n g) n true = opg V a (n + 1) g := by
  funext e
  by_cases q : e = n
  · subst q; rw [vu_same, opg, if_pos ⟨by omega, h⟩]
  · rw [vu_ne _ _ q]; unfold opg
    by_cases z : e < n ∧ e < vE V ∧ vmk V a e = -1
    · rw [if_pos z, if_pos ⟨by omega, z.2⟩]
    · rw [if_neg z, if_neg (fun y => z ⟨by omega, y.2⟩)]
theorem opq_n {V : VT} {a n : Nat} {v : Int32} {p : Nat → Int32} (h : ¬ vmk V a n = -1) : opq V a n v p = opq V a (n + 1) v p := by
  funext e
  unfold opq
  by_cases z : e < n ∧ e < vE V ∧ vmk V a e = -1
  · rw [if_pos z, if_pos ⟨by omega, z.2⟩]
  · rw [if_neg z, if_neg (fun y => by by_cases q : e = n; (rw [q] at y; exact h y.2.2); exact z ⟨by omega, y.2⟩)]
theorem opg_n {V : VT} {a n : Nat} {g : Nat → Bool} (h : ¬ vmk V a n = -1) : opg V a n g = opg V a (n + 1) g := by
  funext e
  unfold opg
  by_cases z : e < n ∧ e < vE V ∧ vmk V a e = -1
  · rw [if_pos z, if_pos ⟨by omega, z.2⟩]
  · rw [if_neg z, if_neg (fun y => by by_cases q : e = n; (rw [q] at y; exact h y.2.2); exact z ⟨by omega, y.2⟩)]
theorem opq_0 {V : VT} {a : Nat} {v : Int32} {p : Nat → Int32} : opq V a 0 v p = p := funext (fun e => if_neg (fun z => absurd z.1 (by omega)))
theorem opg_0 {V : VT} {a : Nat} {g : Nat → Bool} : opg V a 0 g = g := funext (fun e => if_neg (fun z => absurd z.1 (by omega)))
/-- a row that may be put again -/
def opR (V : VT) (a : Nat) (p : Nat → Int32) (g : Nat → Bool) : Prop := (∀ v, opq V a (vE V) v p = opP V a v) ∧ opg V a (vE V) g = opG V a
theorem opR_0 {V : VT} {a : Nat} : opR V a (ptM V (vmk V) a) (gM (vmk V) a) := ⟨fun v => funext (fun e => by
  unfold opq opP
  by_cases z : e < vE V ∧ vmk V a e = -1
  · rw [if_pos z, if_pos ⟨z.1, z⟩]
  · rw [if_neg z, if_neg (fun y => z y.2)]), funext (fun e => by
  unfold opg opG
  by_cases z : e < vE V ∧ vmk V a e = -1
  · rw [if_pos z, if_pos ⟨z.1, z⟩]
  · rw [if_neg z, if_neg (fun y => z y.2)])⟩
theorem opR_s {V : VT} {a : Nat} (w : Int32) : opR V a (opP V a w) (opG V a) := ⟨fun v => funext (fun e => by
  unfold opq opP
  by_cases z : e < vE V ∧ vmk V a e = -1
  · rw [if_pos ⟨z.1, z⟩, if_pos z]
  · rw [if_neg (fun y => z y.2), if_neg z, if_neg z]), funext (fun e => by
  unfold opg opG
  by_cases z : e < vE V ∧ vmk V a e = -1
  · rw [if_pos z, if_pos ⟨z.1, z⟩]
  · rw [if_neg z, if_neg (fun y => z y.2)])⟩
set_option maxRecDepth 20000 in
theorem c_putInOpen (l : Launch) (G : GT) {c : Nat} (hc : isC c) {I : Nat → Nat → Int32} {L : Nat → Nat → Int64} {R : Nat → Nat → Option Nat} (hL : Lay R) (hr5 : R 0 5 = some c) {V : VT} (hV : WV V) (hT : CT I c V) {p : Nat → Int32} {g : Nat → Bool} (a k : Nat) (ha : a < vA V) (hk : k ≤ 2000) (hS : SC I 95 p g (vE V)) (hR : opR V a p g) : Mt l G mX11_putInOpen (2) 0 0 [.ref (ra G 0), .int (nI a), .ref (ra G 95), .int (nI k)] (wd I L R) (fun r w' => r = none ∧ ∃ I', w' = wd I' L R ∧ FrQ 95 I I' ∧ SC I' 95 (opP V a (nI k)) (opG V a) (vE V) ∧ SK I' 95 (opP V a (nI k)) (opG V a) (vE V)) := by
  refine mt_of (own := RX11) (by decide) rfl rfl (fun Z C P B => ?_)
  have D := @dc_of _ _ dX11_putInOpen
  have hE10 := hV.1
  have Lp : ∀ (m e : Nat) (I1 : Nat → Nat → Int32), e + m = vE V → FrQ 95 I I1 → SC I1 95 (opq V a e (nI k) p) (opg V a e g) (vE V) → J Z (0, 0) 3 [some (.ref (ra G 0)), some (.int (nI a)), some (.ref (ra G 95)), some (.int (nI k)), some (.int (nI e))] [] (wd I1 L R) := by
    intro m
    induction m with
    | zero =>
      intro e I1 he hF hS
      have hT1 := CT_fr hc hT (hF.S (Or.inl rfl)) hV.1
      have hS2 : SC I1 95 (opP V a (nI k)) (opG V a) (vE V) := by rw [← hR.1, ← hR.2]; rw [show vE V = e by omega] at hS ⊢; exact hS
      refine j_iload C (D 2 rfl) rfl ?_
      refine j_aload_n C (D 3 rfl) rfl ?_
      refine j_getr C f_X11_37 (lit (kd := 11) (n := 12) rfl) rfl rfl hr5 (D 4 rfl) ?_
      refine j_geti C f_X11_98 (sC0 hc) rfl rfl (D 5 rfl) ?_
      rw [hT1.1]
      refine j_icmp_ge C  51 (D 6 rfl) (by decide) (fun h12 => ?_) (fun h12 => absurd h12 (fun z => z ((nle (by omega) (by omega)).mpr (by omega))))
      refine j_aload_n C (D 26 rfl) rfl ?_
      refine j_callV C B k_X11_324 (rc_obj C (lit (kd := 5) (n := 9) rfl) rfl rfl) (c_reckon _ _ (Or.inl rfl) hL hE10 (op_pz hV ha (by rw [nI_int (by omega)]; omega)) hS2) rfl rfl rfl rfl ⟨Nat.le_refl _, Nat.le_refl _⟩ (D 27 rfl) ?_
      rintro r w' ⟨rfl, I2, rfl, hF2, kK⟩
      exact j_vret C P rfl (D 28 rfl) ⟨Nat.le_refl _, Nat.le_refl _⟩ ⟨rfl, I2, rfl, hF.tr hF2.Q, SC_R hF2 hS2, kK⟩
    | succ m ih =>
      intro e I1 he hF hS
      have hT1 := CT_fr hc hT (hF.S (Or.inl rfl)) hV.1
      refine j_iload C (D 2 rfl) rfl ?_
      refine j_aload_n C (D 3 rfl) rfl ?_
      refine j_getr C f_X11_37 (lit (kd := 11) (n := 12) rfl) rfl rfl hr5 (D 4 rfl) ?_
      refine j_geti C f_X11_98 (sC0 hc) rfl rfl (D 5 rfl) ?_
      rw [hT1.1]
      refine j_icmp_ge C  51 (D 6 rfl) (by decide) (fun h12 => absurd h12 (fun z => by rw [nle (by omega) (by omega)] at z; omega)) (fun h12 => ?_)
      refine j_aload_n C (D 7 rfl) rfl ?_
      refine j_getr C f_X11_37 (lit (kd := 11) (n := 12) rfl) rfl rfl hr5 (D 8 rfl) ?_
      refine j_iload_n C (D 9 rfl) rfl ?_
      refine j_iload C (D 10 rfl) rfl ?_
      refine j_cVp C B k_X11_178 (rc_obj C (sC0 hc) rfl rfl) (c_markOf _ _ hc hL hV hT1 a e ha (by omega)) rfl rfl rfl rfl ⟨Nat.le_refl _, Nat.le_refl _⟩ (D 11 rfl) ?_
      refine j_iconst C (v := (-1)) (D 12 rfl) rfl ?_
      refine j_icmp_ne C  45 (D 13 rfl) (by decide) (fun h26 => ?_) (fun h26 => ?_)
      · first | refine j_iinc1 C (D 24 rfl) rfl rfl ?_ | refine j_iinc C (D 24 rfl) rfl rfl rfl ?_
        refine j_goto C 3 (D 25 rfl) (by decide) ?_
        exact ih (e + 1) I1 (by omega) hF (by rw [← opq_n h26, ← opg_n h26]; exact hS)
      · refine j_aload_n C (D 14 rfl) rfl ?_
        refine j_getr C f_X11_314 (lit (kd := 5) (n := 9) rfl) rfl rfl (hL _ _ _ rfl) (D 15 rfl) ?_
        refine j_iload C (D 16 rfl) rfl ?_
        refine j_iload_n C (D 17 rfl) rfl ?_
        refine j_iast C (lit (kd := 20) (n := 10) rfl) (ix_n (by omega) (by decide)) (D 18 rfl) ?_
        refine j_aload_n C (D 19 rfl) rfl ?_
        refine j_getr C f_X11_320 (lit (kd := 5) (n := 9) rfl) rfl rfl (hL _ _ _ rfl) (D 20 rfl) ?_
        refine j_iload C (D 21 rfl) rfl ?_
        refine j_iconst C (v := nI 1) (D 22 rfl) rfl ?_
        refine j_zast C (lit (kd := 22) (n := 10) rfl) (ix_n (by omega) (by decide)) (by first | exact Or.inl rfl | exact Or.inr rfl) (D 23 rfl) ?_
        first | refine j_iinc1 C (D 24 rfl) rfl rfl ?_ | refine j_iinc C (D 24 rfl) rfl rfl rfl ?_
        refine j_goto C 3 (D 25 rfl) (by decide) ?_
        exact ih (e + 1) _ (by omega) (fun b j h1 h2 h3 => by rw [up2_i (by omega), up2_i (by omega)]; exact hF b j h1 h2 h3) (by have z := SC_set (e := e) (v := nI k) (b := true) hS (b2_t rfl); rw [opq_s ⟨by omega, h26⟩, opg_s ⟨by omega, h26⟩] at z; exact z)
  refine j_iconst C (v := nI 0) (D 0 rfl) rfl ?_
  refine j_istore C (D 1 rfl) rfl ?_
  exact Lp (vE V) 0 I (by omega) (fun _ _ _ _ _ => rfl) (by rw [opq_0, opg_0]; exact hS)
theorem nd_ans {V : VT} (hV : WV V) {a : Nat} {n : Int32} {t : Nat} (ht : t ≤ 2000) (h : mnO V a (vE V) = nI t) : fst1 (ndF V a n) (tn (mstO V a) + 1) 0 = fst1 (ndF V a n) (t + 1) 0 := by
  unfold mstO
  by_cases c : cnt (opn V a) (vE V) = 0
  · rw [if_pos c]
    have h2 := mnO_no c
    rw [h] at h2
    rw [nI_inj (by omega) (by decide) h2, nd_more c]; rfl
  · rw [if_neg c, h, tn_n (by omega)]
theorem mst_n {V : VT} (hV : WV V) (a : Nat) : ∃ t, t ≤ 2000 ∧ mstO V a = nI t := by
  unfold mstO
  by_cases c : cnt (opn V a) (vE V) = 0
  · rw [if_pos c]; exact ⟨0, by omega, rfl⟩
  · rw [if_neg c]
    have h := mnO_rng hV a (Nat.le_refl (vE V))
    obtain ⟨t, _, h2, h3⟩ := i_nat h.1
    exact ⟨t, by have := h.2; omega, h2⟩
theorem mno_n {V : VT} (hV : WV V) (a : Nat) : ∃ t, t ≤ 2000 ∧ mnO V a (vE V) = nI t := by
  have h := mnO_rng hV a (Nat.le_refl (vE V))
  obtain ⟨t, _, h2, h3⟩ := i_nat h.1
  exact ⟨t, by have := h.2; omega, h2⟩
theorem tw_vu {α : Type} (P : Nat → Nat → α) (a e : Nat) (r : Nat → α) (v : α) : tw (va_up P a r) a e v = va_up P a (va_up r e v) := by
  unfold tw; rw [vu_same, vu_vu]
theorem pza_row {V : VT} {P : Nat → Nat → Int32} {g : Nat → Nat → Bool} {a : Nat} {r : Nat → Int32} {s : Nat → Bool} (hz : pza V P g) (h : pz r s (vE V)) : pza V (va_up P a r) (va_up g a s) := fun b hb => by
  by_cases q : b = a
  · subst q; rw [vu_same, vu_same]; exact h
  · rw [vu_ne _ _ q, vu_ne _ _ q]; exact hz b hb
theorem vu_id {α : Type} (P : Nat → α) (a : Nat) : va_up P a (P a) = P := by
  funext b
  by_cases q : b = a
  · subst q; rw [vu_same]
  · rw [vu_ne _ _ q]
def a_need (V : VT) (ld : Bool) (a n : Int32) : Int32 := if inR (vA V) a ∧ wi 0 99999 n then fst1 (ndF V (tn a) n) (tn (mstO V (tn a)) + 1) 0 else -2
theorem a_need_t {V : VT} {ld : Bool} {a n : Int32} (hX : inR (vA V) a ∧ wi 0 99999 n) : a_need V ld a n = fst1 (ndF V (tn a) n) (tn (mstO V (tn a)) + 1) 0 := if_pos hX
theorem a_need_f {V : VT} {ld : Bool} {a n : Int32} (hX : ¬ (inR (vA V) a ∧ wi 0 99999 n)) : a_need V ld a n = -2 := if_neg hX
set_option maxRecDepth 20000 in
theorem c_needQ (l : Launch) (G : GT) {c : Nat} (hc : isC c) {I : Nat → Nat → Int32} {L : Nat → Nat → Int64} {R : Nat → Nat → Option Nat} (hL : Lay R) (hr5 : R 0 5 = some c) {V : VT} (hV : WV V) (hT : CT I c V) (ld : Bool) (hld : I 0 6 = b2 (ld = true)) (a n : Int32) : Mt l G mX11_need (5) 0 0 [.ref (ra G 0), .int a, .int n] (wd I L R) (qC (a_need V ld a n) I R) := by
  refine mt_of (own := RX11) (by decide) rfl rfl (fun Z C P B => ?_)
  have D := @dc_of _ _ dX11_need
  have hE10 := hV.1
  have hA8 := hV.2.1
  refine j_aload_n C (D 0 rfl) rfl ?_
  refine j_iload_n C (D 1 rfl) rfl ?_
  refine j_cVp C B k_X11_184 (rc_obj C (lit (kd := 11) (n := 12) rfl) rfl rfl) (c_hasAthlete _ _ hc hL hr5 hV hT ld hld _) rfl rfl rfl rfl ⟨Nat.le_refl _, Nat.le_refl _⟩ (D 2 rfl) ?_
  refine j_if_eq C  18 (D 3 rfl) (by decide) (fun h5 => ?_) (fun h5 => ?_)
  · refine j_bipush C (v := (-2)) (D 9 rfl) rfl ?_
    exact j_iret C P rfl (D 10 rfl) ⟨Nat.le_refl _, Nat.le_refl _⟩ (qc0 (a_need_f (fun z => b2_eq h5 z.1)).symm)
  · refine j_iload_n C (D 4 rfl) rfl ?_
    refine j_iconst C (v := nI 0) (D 5 rfl) rfl ?_
    refine j_ldc C (v := 99999) (D 6 rfl) n_X11_236 ?_
    refine j_cSp C B k_X11_158 (c_isWithin _ _ _ _ _ _) rfl rfl rfl rfl ⟨Nat.le_refl _, Nat.le_refl _⟩ (D 7 rfl) ?_
    refine j_if_ne C  21 (D 8 rfl) (by decide) (fun h15 => ?_) (fun h15 => ?_)
    · obtain ⟨a, ha, rfl⟩ := inR_n (b2_ne h5)
      have ha8 : a < 8 := by omega
      obtain ⟨t, ht, hte⟩ := mst_n hV a
      refine j_aload_n C (D 11 rfl) rfl ?_
      refine j_iload_n C (D 12 rfl) rfl ?_
      refine j_callV C B k_X11_216 (rc_obj C (lit (kd := 11) (n := 12) rfl) rfl rfl) (c_scNow _ _ hc hL hr5 hV hT a ha) rfl rfl rfl rfl ⟨Nat.le_refl _, Nat.le_refl _⟩ (D 13 rfl) ?_
      rintro r w' ⟨rfl, I2, rfl, hF2, kS, kK⟩
      have hT2 := CT_fr hc hT (hF2.S (Or.inl rfl)) hV.1
      refine j_astore_n C (D 14 rfl) rfl ?_
      refine j_aload_n C (D 15 rfl) rfl ?_
      refine j_iload_n C (D 16 rfl) rfl ?_
      refine j_cVp C B k_X11_237 (rc_obj C (lit (kd := 11) (n := 12) rfl) rfl rfl) (c_mostInOpen _ _ hc hL hr5 hV hT2 a ha) rfl rfl rfl rfl ⟨Nat.le_refl _, Nat.le_refl _⟩ (D 17 rfl) ?_
      rw [hte]
      refine j_istore C (D 18 rfl) rfl ?_
      refine j_iconst C (v := nI 0) (D 19 rfl) rfl ?_
      refine j_istore C (D 20 rfl) rfl ?_
      have Lp : ∀ (m k : Nat) (I1 : Nat → Nat → Int32) (pc : Nat → Int32) (gc : Nat → Bool), k + m = t + 1 → FrS I I1 → SC I1 95 pc gc (vE V) → opR V a pc gc → fst1 (ndF V a n) (t + 1) 0 = fst1 (ndF V a n) m k → J Z (0, 0) 37 [some (.ref (ra G 0)), some (.int (nI a)), some (.int n), some (.ref (ra G 95)), some (.int (nI t)), some (.int (nI k))] [] (wd I1 L R) := by
        intro m
        induction m with
        | zero =>
          intro k I1 pc gc hk hF hS hR hf
          refine j_iload C (D 21 rfl) rfl ?_
          refine j_iload C (D 22 rfl) rfl ?_
          refine j_icmp_gt C  76 (D 23 rfl) (by decide) (fun h41 => ?_) (fun h41 => absurd h41 (fun z => z ((nlt (by omega) (by omega)).mpr (by omega))))
          refine j_iconst C (v := (-1)) (D 40 rfl) rfl ?_
          exact j_iret C P rfl (D 41 rfl) ⟨Nat.le_refl _, Nat.le_refl _⟩ (qc1 hF (by rw [a_need_t ⟨(b2_ne h5), ((wC (by decide) (by decide)).mp (b2_ne h15))⟩, tn_n (by omega), hte, tn_n (by omega), hf]; rfl))
        | succ m ih =>
          intro k I1 pc gc hk hF hS hR hf
          refine j_iload C (D 21 rfl) rfl ?_
          refine j_iload C (D 22 rfl) rfl ?_
          refine j_icmp_gt C  76 (D 23 rfl) (by decide) (fun h41 => absurd h41 (fun z => by rw [nlt (by omega) (by omega)] at z; omega)) (fun h41 => ?_)
          refine j_aload_n C (D 24 rfl) rfl ?_
          refine j_iload_n C (D 25 rfl) rfl ?_
          refine j_aload_n C (D 26 rfl) rfl ?_
          refine j_iload C (D 27 rfl) rfl ?_
          refine j_callV C B k_X11_240 (rc_obj C (lit (kd := 11) (n := 12) rfl) rfl rfl) (c_putInOpen _ _ hc hL hr5 hV (CT_fr hc hT hF hV.1) a k ha (by omega) hS hR) rfl rfl rfl rfl ⟨Nat.le_refl _, Nat.le_refl _⟩ (D 28 rfl) ?_
          rintro r w' ⟨rfl, I2, rfl, hF2, kS, kK⟩
          have hT2 := CT_fr hc hT (hF.tr (hF2.S (Or.inl rfl))) hV.1
          have hp2 := op_pz hV ha (v := nI k) (by rw [nI_int (by omega)]; omega)
          refine j_aload_n C (D 29 rfl) rfl ?_
          refine j_getr C f_X11_37 (lit (kd := 11) (n := 12) rfl) rfl rfl hr5 (D 30 rfl) ?_
          refine j_getr C f_X11_104 (sC0 hc) rfl rfl (hL _ _ _ (rC4 hc)) (D 31 rfl) ?_
          refine j_aload_n C (D 32 rfl) rfl ?_
          refine j_iload_n C (D 33 rfl) rfl ?_
          refine j_callV C B k_X11_244 (rc_obj C (sC5 hc) rfl rfl) (c_comesTo _ _ hc (Or.inl rfl) hL hV hT2 hp2 kS kK n) rfl rfl rfl rfl ⟨Nat.le_refl _, Nat.le_refl _⟩ (D 34 rfl) ?_
          rintro r w' ⟨rfl, I3, rfl, hF3⟩
          refine j_if_eq C  70 (D 35 rfl) (by decide) (fun h64 => ?_) (fun h64 => ?_)
          · first | refine j_iinc1 C (D 38 rfl) rfl rfl ?_ | refine j_iinc C (D 38 rfl) rfl rfl rfl ?_
            refine j_goto C 37 (D 39 rfl) (by decide) ?_
            exact ih (k + 1) I3 _ _ (by omega) (hF.tr ((hF2.S (Or.inl rfl)).tr (hF3.S hc (Or.inl rfl)))) (SC_Bo hc (Or.inl rfl) hF3 kS) (opR_s _) (by rw [hf, fst1, if_neg (fun (z : ndF V a n k = true) => b2_eq h64 (of_decide_eq_true z))])
          · refine j_iload C (D 36 rfl) rfl ?_
            exact j_iret C P rfl (D 37 rfl) ⟨Nat.le_refl _, Nat.le_refl _⟩ (qc1 (hF.tr ((hF2.S (Or.inl rfl)).tr (hF3.S hc (Or.inl rfl)))) (by rw [a_need_t ⟨(b2_ne h5), ((wC (by decide) (by decide)).mp (b2_ne h15))⟩, tn_n (by omega), hte, tn_n (by omega), hf, fst1, if_pos (show ndF V a n k = true from decide_eq_true (b2_ne h64))]))
      exact Lp (t + 1) 0 _ _ _ (by omega) (hF2.S (Or.inl rfl)) kS opR_0 rfl
    · refine j_bipush C (v := (-2)) (D 9 rfl) rfl ?_
      exact j_iret C P rfl (D 10 rfl) ⟨Nat.le_refl _, Nat.le_refl _⟩ (qc0 (a_need_f (fun z => b2_eq h15 ((wC (by decide) (by decide)).mpr z.2))).symm)

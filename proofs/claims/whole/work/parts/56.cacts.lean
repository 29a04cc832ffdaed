theorem ac0 {v v' : Int32} {I : Nat → Nat → Int32} {L : Nat → Nat → Int64} {R : Nat → Nat → Option Nat} {c : Nat} {V : VT} {n : Nat} {h : Nat → SN} {s : S3} (hT : CT I c V) (hH : HC I V n h) (hv : v = v') (hs : (V, n, h) = s) : aC v' I R c s (some (.int v)) (wd I L R) := by
  subst hs; exact ⟨by rw [hv], I, L, rfl, hT, hH, fun _ _ _ => rfl⟩
theorem am0 {v v' : Int32} {I : Nat → Nat → Int32} {L : Nat → Nat → Int64} {R : Nat → Nat → Option Nat} {V : VT} {n : Nat} {h : Nat → SN} {s : S3} (hM : MT I V) (hH : HMo I n h) (hv : v = v') (hs : (V, n, h) = s) : aM v' I R s (some (.int v)) (wd I L R) := by
  subst hs; exact ⟨by rw [hv], I, L, rfl, hM, hH, fun _ _ _ _ _ => rfl⟩
def gnS (V : VT) (n : Nat) (h : Nat → SN) (a e : Nat) (g u : Int32) : S3 := if vgo V a e = g ∧ vgi V a e = u then (V, n, h) else pushS V (gnV V a e g u) n h
def tiS (V : VT) (n : Nat) (h : Nat → SN) (t : Int32) : S3 := if vt V = t then (V, n, h) else pushS V (tiV V t) n h
theorem und_gn {V : VT} {a e : Nat} {g u : Int32} (ha : a < vA V) (he : e < 10) : und (nI 2) (nI (a * 10 + e)) (vgo V a e) (vgi V a e) (gnV V a e g u) (snV V) := by
  refine Or.inr (Or.inr (Or.inl ⟨rfl, rfl, rfl, agr.rf _ _, ⟨a, e, ha, he, rfl, fun b j hb hj => ?_, fun b j hb hj => ?_⟩⟩))
  · show vgo V b j = tw (tw (vgo V) a e g) a e (vgo V a e) b j
    rw [tw_tw, tw_at]
    by_cases q : b = a ∧ j = e
    · rw [if_pos q, q.1, q.2]
    · rw [if_neg q]
  · show vgi V b j = tw (tw (vgi V) a e u) a e (vgi V a e) b j
    rw [tw_tw, tw_at]
    by_cases q : b = a ∧ j = e
    · rw [if_pos q, q.1, q.2]
    · rw [if_neg q]
theorem und_ti {V : VT} {t : Int32} (x2 x4 : Int32) : und (nI 3) x2 (vt V) x4 (tiV V t) (snV V) := Or.inr (Or.inr (Or.inr ⟨rfl, rfl, rfl, agr.rf _ _, agr.rf _ _, agr.rf _ _⟩))
def a_sets (V : VT) (ld : Bool) (a e m : Int32) : Int32 := if (inR (vA V) a ∧ inR (vE V) e) ∧ wi (-1) 99999 m then vmk V (tn a) (tn e) else -2
theorem a_sets_t {V : VT} {ld : Bool} {a e m : Int32} (hX : (inR (vA V) a ∧ inR (vE V) e) ∧ wi (-1) 99999 m) : a_sets V ld a e m = vmk V (tn a) (tn e) := if_pos hX
theorem a_sets_f {V : VT} {ld : Bool} {a e m : Int32} (hX : ¬ ((inR (vA V) a ∧ inR (vE V) e) ∧ wi (-1) 99999 m)) : a_sets V ld a e m = -2 := if_neg hX
def s_sets (V : VT) (ld : Bool) (n : Nat) (h : Nat → SN) (a e m : Int32) : S3 := if (inR (vA V) a ∧ inR (vE V) e) ∧ wi (-1) 99999 m then mkS V n h (tn a) (tn e) m else (V, n, h)
theorem s_sets_t {V : VT} {ld : Bool} {n : Nat} {h : Nat → SN} {a e m : Int32} (hX : (inR (vA V) a ∧ inR (vE V) e) ∧ wi (-1) 99999 m) : s_sets V ld n h a e m = mkS V n h (tn a) (tn e) m := if_pos hX
theorem s_sets_f {V : VT} {ld : Bool} {n : Nat} {h : Nat → SN} {a e m : Int32} (hX : ¬ ((inR (vA V) a ∧ inR (vE V) e) ∧ wi (-1) 99999 m)) : s_sets V ld n h a e m = (V, n, h) := if_neg hX
set_option maxRecDepth 20000 in
theorem c_setsQ (l : Launch) (G : GT) {c : Nat} (hc : isC c) {I : Nat → Nat → Int32} {L : Nat → Nat → Int64} {R : Nat → Nat → Option Nat} (hL : Lay R) (hr5 : R 0 5 = some c) {V : VT} (hV : WV V) (hT : CT I c V) (ld : Bool) (hld : I 0 6 = b2 (ld = true)) {n : Nat} {h : Nat → SN} (hn : n ≤ 10) (hH : HC I V n h) (a e m : Int32) : Mt l G mX11_sets (4) 0 0 [.ref (ra G 0), .int a, .int e, .int m] (wd I L R) (aC (a_sets V ld a e m) I R c (s_sets V ld n h a e m)) := by
  refine mt_of (own := RX11) (by decide) rfl rfl (fun Z C P B => ?_)
  have D := @dc_of _ _ dX11_sets
  have hE10 := hV.1
  have hA8 := hV.2.1
  have hcr := isC_rng hc
  refine j_aload_n C (D 0 rfl) rfl ?_
  refine j_iload_n C (D 1 rfl) rfl ?_
  refine j_iload_n C (D 2 rfl) rfl ?_
  refine j_cVp C B k_X11_174 (rc_obj C (lit (kd := 11) (n := 12) rfl) rfl rfl) (c_hasCell _ _ hc hL hr5 hV hT ld hld _ _) rfl rfl rfl rfl ⟨Nat.le_refl _, Nat.le_refl _⟩ (D 3 rfl) ?_
  refine j_if_eq C  19 (D 4 rfl) (by decide) (fun h6 => ?_) (fun h6 => ?_)
  · refine j_bipush C (v := (-2)) (D 10 rfl) rfl ?_
    exact j_iret C P rfl (D 11 rfl) ⟨Nat.le_refl _, Nat.le_refl _⟩ (ac0 hT hH (a_sets_f (fun z => b2_eq h6 z.1)).symm (s_sets_f (fun z => b2_eq h6 z.1)).symm)
  · refine j_iload_n C (D 5 rfl) rfl ?_
    refine j_iconst C (v := (-1)) (D 6 rfl) rfl ?_
    refine j_ldc C (v := 99999) (D 7 rfl) n_X11_236 ?_
    refine j_cSp C B k_X11_158 (c_isWithin _ _ _ _ _ _) rfl rfl rfl rfl ⟨Nat.le_refl _, Nat.le_refl _⟩ (D 8 rfl) ?_
    refine j_if_ne C  22 (D 9 rfl) (by decide) (fun h16 => ?_) (fun h16 => ?_)
    · obtain ⟨⟨a, ha, rfl⟩, ⟨e, he, rfl⟩⟩ := And.intro (inR_n (b2_ne h6).1) (inR_n (b2_ne h6).2)
      have he10 : e < 10 := by omega
      have ha8 : a < 8 := by omega
      refine j_aload_n C (D 12 rfl) rfl ?_
      refine j_iload_n C (D 13 rfl) rfl ?_
      refine j_iload_n C (D 14 rfl) rfl ?_
      refine j_cSp C B k_X11_262 (c_cellOf _ _ _ _ _) rfl rfl rfl rfl ⟨Nat.le_refl _, Nat.le_refl _⟩ (D 15 rfl) ?_
      refine j_iload_n C (D 16 rfl) rfl ?_
      rw [pk_mul, nI_add]
      refine j_callV C B k_X11_288 (rc_obj C (lit (kd := 11) (n := 12) rfl) rfl rfl) (c_changeMark _ _ hc hL hr5 hV hT hn hH a e ha he10 m) rfl rfl rfl rfl ⟨Nat.le_refl _, Nat.le_refl _⟩ (D 17 rfl) ?_
      rintro r w' ⟨rfl, I2, L2, rfl, k1, k2, k3⟩
      exact j_iret C P rfl (D 18 rfl) ⟨Nat.le_refl _, Nat.le_refl _⟩ ⟨by rw [a_sets_t ⟨(b2_ne h6), ((wC (by decide) (by decide)).mp (b2_ne h16))⟩, tn_n (by omega), tn_n (by omega)], I2, L2, rfl, by rw [s_sets_t ⟨(b2_ne h6), ((wC (by decide) (by decide)).mp (b2_ne h16))⟩, tn_n (by omega), tn_n (by omega)]; exact k1, by rw [s_sets_t ⟨(b2_ne h6), ((wC (by decide) (by decide)).mp (b2_ne h16))⟩, tn_n (by omega), tn_n (by omega)]; exact k2, k3⟩
    · refine j_bipush C (v := (-2)) (D 10 rfl) rfl ?_
      exact j_iret C P rfl (D 11 rfl) ⟨Nat.le_refl _, Nat.le_refl _⟩ (ac0 hT hH (a_sets_f (fun z => b2_eq h16 ((wC (by decide) (by decide)).mpr z.2))).symm (s_sets_f (fun z => b2_eq h16 ((wC (by decide) (by decide)).mpr z.2))).symm)
def a_trains (V : VT) (ld : Bool) (a e u : Int32) : Int32 := if (inR (vA V) a ∧ inR (vE V) e) ∧ wi 0 999 u then trS (vev V (tn e)) (vmk V (tn a) (tn e)) (vgo V (tn a) (tn e)) (vgi V (tn a) (tn e)) (tn u) else -2
theorem a_trains_t {V : VT} {ld : Bool} {a e u : Int32} (hX : (inR (vA V) a ∧ inR (vE V) e) ∧ wi 0 999 u) : a_trains V ld a e u = trS (vev V (tn e)) (vmk V (tn a) (tn e)) (vgo V (tn a) (tn e)) (vgi V (tn a) (tn e)) (tn u) := if_pos hX
theorem a_trains_f {V : VT} {ld : Bool} {a e u : Int32} (hX : ¬ ((inR (vA V) a ∧ inR (vE V) e) ∧ wi 0 999 u)) : a_trains V ld a e u = -2 := if_neg hX
def s_trains (V : VT) (ld : Bool) (n : Nat) (h : Nat → SN) (a e u : Int32) : S3 := if (inR (vA V) a ∧ inR (vE V) e) ∧ wi 0 999 u then mkS V n h (tn a) (tn e) (trS (vev V (tn e)) (vmk V (tn a) (tn e)) (vgo V (tn a) (tn e)) (vgi V (tn a) (tn e)) (tn u)) else (V, n, h)
theorem s_trains_t {V : VT} {ld : Bool} {n : Nat} {h : Nat → SN} {a e u : Int32} (hX : (inR (vA V) a ∧ inR (vE V) e) ∧ wi 0 999 u) : s_trains V ld n h a e u = mkS V n h (tn a) (tn e) (trS (vev V (tn e)) (vmk V (tn a) (tn e)) (vgo V (tn a) (tn e)) (vgi V (tn a) (tn e)) (tn u)) := if_pos hX
theorem s_trains_f {V : VT} {ld : Bool} {n : Nat} {h : Nat → SN} {a e u : Int32} (hX : ¬ ((inR (vA V) a ∧ inR (vE V) e) ∧ wi 0 999 u)) : s_trains V ld n h a e u = (V, n, h) := if_neg hX
set_option maxRecDepth 20000 in
theorem c_trainsQ (l : Launch) (G : GT) {c : Nat} (hc : isC c) {I : Nat → Nat → Int32} {L : Nat → Nat → Int64} {R : Nat → Nat → Option Nat} (hL : Lay R) (hr5 : R 0 5 = some c) {V : VT} (hV : WV V) (hT : CT I c V) (ld : Bool) (hld : I 0 6 = b2 (ld = true)) {n : Nat} {h : Nat → SN} (hn : n ≤ 10) (hH : HC I V n h) (a e u : Int32) : Mt l G mX11_trains (4) 0 0 [.ref (ra G 0), .int a, .int e, .int u] (wd I L R) (aC (a_trains V ld a e u) I R c (s_trains V ld n h a e u)) := by
  refine mt_of (own := RX11) (by decide) rfl rfl (fun Z C P B => ?_)
  have D := @dc_of _ _ dX11_trains
  have hE10 := hV.1
  have hA8 := hV.2.1
  have hcr := isC_rng hc
  refine j_aload_n C (D 0 rfl) rfl ?_
  refine j_iload_n C (D 1 rfl) rfl ?_
  refine j_iload_n C (D 2 rfl) rfl ?_
  refine j_cVp C B k_X11_174 (rc_obj C (lit (kd := 11) (n := 12) rfl) rfl rfl) (c_hasCell _ _ hc hL hr5 hV hT ld hld _ _) rfl rfl rfl rfl ⟨Nat.le_refl _, Nat.le_refl _⟩ (D 3 rfl) ?_
  refine j_if_eq C  20 (D 4 rfl) (by decide) (fun h6 => ?_) (fun h6 => ?_)
  · refine j_bipush C (v := (-2)) (D 10 rfl) rfl ?_
    exact j_iret C P rfl (D 11 rfl) ⟨Nat.le_refl _, Nat.le_refl _⟩ (ac0 hT hH (a_trains_f (fun z => b2_eq h6 z.1)).symm (s_trains_f (fun z => b2_eq h6 z.1)).symm)
  · refine j_iload_n C (D 5 rfl) rfl ?_
    refine j_iconst C (v := nI 0) (D 6 rfl) rfl ?_
    refine j_sipush C (v := nI 999) (D 7 rfl) rfl ?_
    refine j_cSp C B k_X11_158 (c_isWithin _ _ _ _ _ _) rfl rfl rfl rfl ⟨Nat.le_refl _, Nat.le_refl _⟩ (D 8 rfl) ?_
    refine j_if_ne C  23 (D 9 rfl) (by decide) (fun h17 => ?_) (fun h17 => ?_)
    · obtain ⟨⟨a, ha, rfl⟩, ⟨e, he, rfl⟩⟩ := And.intro (inR_n (b2_ne h6).1) (inR_n (b2_ne h6).2)
      have he10 : e < 10 := by omega
      have ha8 : a < 8 := by omega
      obtain ⟨u, hlo, hu, rfl⟩ := wi_n (a := 0) (b := 999) ((wC (by decide) (by decide)).mp (b2_ne h17))
      refine j_aload_n C (D 12 rfl) rfl ?_
      refine j_getr C f_X11_37 (lit (kd := 11) (n := 12) rfl) rfl rfl hr5 (D 13 rfl) ?_
      refine j_iload_n C (D 14 rfl) rfl ?_
      refine j_iload_n C (D 15 rfl) rfl ?_
      refine j_iload_n C (D 16 rfl) rfl ?_
      refine j_cVp C B k_X11_258 (rc_obj C (sC0 hc) rfl rfl) (c_markAfter _ _ hc hL hV hT a e u ha he hu) rfl rfl rfl rfl ⟨Nat.le_refl _, Nat.le_refl _⟩ (D 17 rfl) ?_
      refine j_istore C (D 18 rfl) rfl ?_
      refine j_aload_n C (D 19 rfl) rfl ?_
      refine j_iload_n C (D 20 rfl) rfl ?_
      refine j_iload_n C (D 21 rfl) rfl ?_
      refine j_cSp C B k_X11_262 (c_cellOf _ _ _ _ _) rfl rfl rfl rfl ⟨Nat.le_refl _, Nat.le_refl _⟩ (D 22 rfl) ?_
      refine j_iload C (D 23 rfl) rfl ?_
      rw [pk_mul, nI_add]
      refine j_callV C B k_X11_288 (rc_obj C (lit (kd := 11) (n := 12) rfl) rfl rfl) (c_changeMark _ _ hc hL hr5 hV hT hn hH a e ha he10 _) rfl rfl rfl rfl ⟨Nat.le_refl _, Nat.le_refl _⟩ (D 24 rfl) ?_
      rintro r w' ⟨rfl, I2, L2, rfl, k1, k2, k3⟩
      refine j_pop C (D 25 rfl) rfl ?_
      refine j_iload C (D 26 rfl) rfl ?_
      exact j_iret C P rfl (D 27 rfl) ⟨Nat.le_refl _, Nat.le_refl _⟩ ⟨by rw [a_trains_t ⟨(b2_ne h6), ((wC (by decide) (by decide)).mp (b2_ne h17))⟩, tn_n (by omega), tn_n (by omega), tn_n (by omega)], I2, L2, rfl, by rw [s_trains_t ⟨(b2_ne h6), ((wC (by decide) (by decide)).mp (b2_ne h17))⟩, tn_n (by omega), tn_n (by omega), tn_n (by omega)]; exact k1, by rw [s_trains_t ⟨(b2_ne h6), ((wC (by decide) (by decide)).mp (b2_ne h17))⟩, tn_n (by omega), tn_n (by omega), tn_n (by omega)]; exact k2, k3⟩
    · refine j_bipush C (v := (-2)) (D 10 rfl) rfl ?_
      exact j_iret C P rfl (D 11 rfl) ⟨Nat.le_refl _, Nat.le_refl _⟩ (ac0 hT hH (a_trains_f (fun z => b2_eq h17 ((wC (by decide) (by decide)).mpr z.2))).symm (s_trains_f (fun z => b2_eq h17 ((wC (by decide) (by decide)).mpr z.2))).symm)
def a_gain (V : VT) (ld : Bool) (a e g u : Int32) : Int32 := if (inR (vA V) a ∧ inR (vE V) e) ∧ wi 0 99999 g ∧ wi 1 999 u then vgo V (tn a) (tn e) else -2
theorem a_gain_t {V : VT} {ld : Bool} {a e g u : Int32} (hX : (inR (vA V) a ∧ inR (vE V) e) ∧ wi 0 99999 g ∧ wi 1 999 u) : a_gain V ld a e g u = vgo V (tn a) (tn e) := if_pos hX
theorem a_gain_f {V : VT} {ld : Bool} {a e g u : Int32} (hX : ¬ ((inR (vA V) a ∧ inR (vE V) e) ∧ wi 0 99999 g ∧ wi 1 999 u)) : a_gain V ld a e g u = -2 := if_neg hX
def s_gain (V : VT) (ld : Bool) (n : Nat) (h : Nat → SN) (a e g u : Int32) : S3 := if (inR (vA V) a ∧ inR (vE V) e) ∧ wi 0 99999 g ∧ wi 1 999 u then gnS V n h (tn a) (tn e) g u else (V, n, h)
theorem s_gain_t {V : VT} {ld : Bool} {n : Nat} {h : Nat → SN} {a e g u : Int32} (hX : (inR (vA V) a ∧ inR (vE V) e) ∧ wi 0 99999 g ∧ wi 1 999 u) : s_gain V ld n h a e g u = gnS V n h (tn a) (tn e) g u := if_pos hX
theorem s_gain_f {V : VT} {ld : Bool} {n : Nat} {h : Nat → SN} {a e g u : Int32} (hX : ¬ ((inR (vA V) a ∧ inR (vE V) e) ∧ wi 0 99999 g ∧ wi 1 999 u)) : s_gain V ld n h a e g u = (V, n, h) := if_neg hX
set_option maxRecDepth 20000 in
theorem c_gainQ (l : Launch) (G : GT) {c : Nat} (hc : isC c) {I : Nat → Nat → Int32} {L : Nat → Nat → Int64} {R : Nat → Nat → Option Nat} (hL : Lay R) (hr5 : R 0 5 = some c) {V : VT} (hV : WV V) (hT : CT I c V) (ld : Bool) (hld : I 0 6 = b2 (ld = true)) {n : Nat} {h : Nat → SN} (hn : n ≤ 10) (hH : HC I V n h) (a e g u : Int32) : Mt l G mX11_gain (4) 0 0 [.ref (ra G 0), .int a, .int e, .int g, .int u] (wd I L R) (aC (a_gain V ld a e g u) I R c (s_gain V ld n h a e g u)) := by
  refine mt_of (own := RX11) (by decide) rfl rfl (fun Z C P B => ?_)
  have D := @dc_of _ _ dX11_gain
  have hE10 := hV.1
  have hA8 := hV.2.1
  have hcr := isC_rng hc
  refine j_aload_n C (D 0 rfl) rfl ?_
  refine j_iload_n C (D 1 rfl) rfl ?_
  refine j_iload_n C (D 2 rfl) rfl ?_
  refine j_cVp C B k_X11_174 (rc_obj C (lit (kd := 11) (n := 12) rfl) rfl rfl) (c_hasCell _ _ hc hL hr5 hV hT ld hld _ _) rfl rfl rfl rfl ⟨Nat.le_refl _, Nat.le_refl _⟩ (D 3 rfl) ?_
  refine j_if_eq C  28 (D 4 rfl) (by decide) (fun h6 => ?_) (fun h6 => ?_)
  · refine j_bipush C (v := (-2)) (D 13 rfl) rfl ?_
    exact j_iret C P rfl (D 14 rfl) ⟨Nat.le_refl _, Nat.le_refl _⟩ (ac0 hT hH (a_gain_f (fun z => b2_eq h6 z.1)).symm (s_gain_f (fun z => b2_eq h6 z.1)).symm)
  · refine j_iload_n C (D 5 rfl) rfl ?_
    refine j_cSp C B k_X11_151 (c_isMark _ _ _ _) rfl rfl rfl rfl ⟨Nat.le_refl _, Nat.le_refl _⟩ (D 6 rfl) ?_
    refine j_if_eq C  28 (D 7 rfl) (by decide) (fun h13 => ?_) (fun h13 => ?_)
    · refine j_bipush C (v := (-2)) (D 13 rfl) rfl ?_
      exact j_iret C P rfl (D 14 rfl) ⟨Nat.le_refl _, Nat.le_refl _⟩ (ac0 hT hH (a_gain_f (fun z => b2_eq h13 ((wC (by decide) (by decide)).mpr z.2.1))).symm (s_gain_f (fun z => b2_eq h13 ((wC (by decide) (by decide)).mpr z.2.1))).symm)
    · refine j_iload C (D 8 rfl) rfl ?_
      refine j_iconst C (v := nI 1) (D 9 rfl) rfl ?_
      refine j_sipush C (v := nI 999) (D 10 rfl) rfl ?_
      refine j_cSp C B k_X11_158 (c_isWithin _ _ _ _ _ _) rfl rfl rfl rfl ⟨Nat.le_refl _, Nat.le_refl _⟩ (D 11 rfl) ?_
      refine j_if_ne C  31 (D 12 rfl) (by decide) (fun h25 => ?_) (fun h25 => ?_)
      · obtain ⟨⟨a, ha, rfl⟩, ⟨e, he, rfl⟩⟩ := And.intro (inR_n (b2_ne h6).1) (inR_n (b2_ne h6).2)
        have he10 : e < 10 := by omega
        have ha8 : a < 8 := by omega
        refine j_iload_n C (D 15 rfl) rfl ?_
        refine j_iload_n C (D 16 rfl) rfl ?_
        refine j_cSp C B k_X11_262 (c_cellOf _ _ _ _ _) rfl rfl rfl rfl ⟨Nat.le_refl _, Nat.le_refl _⟩ (D 17 rfl) ?_
        rw [pk_mul, nI_add]
        refine j_istore C (D 18 rfl) rfl ?_
        refine j_aload_n C (D 19 rfl) rfl ?_
        refine j_getr C f_X11_37 (lit (kd := 11) (n := 12) rfl) rfl rfl hr5 (D 20 rfl) ?_
        refine j_getr C f_X11_265 (sC0 hc) rfl rfl (hL _ _ _ (rC2 hc)) (D 21 rfl) ?_
        refine j_iload C (D 22 rfl) rfl ?_
        refine j_iald C (sC3 hc) (ix_n (by omega) (by decide)) (D 23 rfl) ?_
        rw [(hT.2.2.2.2.2.1 a e ha he10).2.1]
        refine j_istore C (D 24 rfl) rfl ?_
        refine j_iload C (D 25 rfl) rfl ?_
        refine j_iload_n C (D 26 rfl) rfl ?_
        refine j_icmp_ne C  71 (D 27 rfl) (by decide) (fun h53 => ?_) (fun h53 => ?_)
        · refine j_aload_n C (D 35 rfl) rfl ?_
          refine j_getr C f_X11_30 (lit (kd := 11) (n := 12) rfl) rfl rfl (hL _ _ _ rfl) (D 36 rfl) ?_
          refine j_iconst C (v := nI 2) (D 37 rfl) rfl ?_
          refine j_iload C (D 38 rfl) rfl ?_
          refine j_iload C (D 39 rfl) rfl ?_
          refine j_aload_n C (D 40 rfl) rfl ?_
          refine j_getr C f_X11_37 (lit (kd := 11) (n := 12) rfl) rfl rfl hr5 (D 41 rfl) ?_
          refine j_getr C f_X11_268 (sC0 hc) rfl rfl (hL _ _ _ (rC3 hc)) (D 42 rfl) ?_
          refine j_iload C (D 43 rfl) rfl ?_
          refine j_iald C (sC4 hc) (ix_n (by omega) (by decide)) (D 44 rfl) ?_
          rw [(hT.2.2.2.2.2.1 a e ha he10).2.2]
          refine j_callV C B k_X11_291 (rc_obj C (lit (kd := 2) (n := 5) rfl) rfl rfl) (c_note _ _ hL n hn hH.1 (nI 2) _ _ _) rfl rfl rfl rfl ⟨Nat.le_refl _, Nat.le_refl _⟩ (D 45 rfl) ?_
          rintro r w' ⟨rfl, I2, rfl, k0, k1, k2, k3⟩
          have hT2 := CT_of (I' := I2) hT (fun j k q1 q2 q3 => k3 _ _ (by rcases hc with rfl | rfl <;> omega)) hV.1
          refine j_aload_n C (D 46 rfl) rfl ?_
          refine j_getr C f_X11_37 (lit (kd := 11) (n := 12) rfl) rfl rfl hr5 (D 47 rfl) ?_
          refine j_getr C f_X11_265 (sC0 hc) rfl rfl (hL _ _ _ (rC2 hc)) (D 48 rfl) ?_
          refine j_iload C (D 49 rfl) rfl ?_
          refine j_iload_n C (D 50 rfl) rfl ?_
          refine j_iast C (sC3 hc) (ix_n (by omega) (by decide)) (D 51 rfl) ?_
          refine j_aload_n C (D 52 rfl) rfl ?_
          refine j_getr C f_X11_37 (lit (kd := 11) (n := 12) rfl) rfl rfl hr5 (D 53 rfl) ?_
          refine j_getr C f_X11_268 (sC0 hc) rfl rfl (hL _ _ _ (rC3 hc)) (D 54 rfl) ?_
          refine j_iload C (D 55 rfl) rfl ?_
          refine j_iload C (D 56 rfl) rfl ?_
          refine j_iast C (sC4 hc) (ix_n (by omega) (by decide)) (D 57 rfl) ?_
          refine j_iload C (D 58 rfl) rfl ?_
          exact j_iret C P rfl (D 59 rfl) ⟨Nat.le_refl _, Nat.le_refl _⟩ ⟨by rw [a_gain_t ⟨(b2_ne h6), ((wC (by decide) (by decide)).mp (b2_ne h13)), ((wC (by decide) (by decide)).mp (b2_ne h25))⟩, tn_n (by omega), tn_n (by omega)], _, L, rfl, by
    rw [s_gain_t ⟨(b2_ne h6), ((wC (by decide) (by decide)).mp (b2_ne h13)), ((wC (by decide) (by decide)).mp (b2_ne h25))⟩, tn_n (by omega), tn_n (by omega), gnS, if_neg (fun z => h53 z.1)]
    refine CT_set hT2 hE10 (fun j k q1 q2 q3 q4 q5 => by rw [up2_i (by omega), up2_i (by omega)]) (by rw [up2_i (by omega), up2_i (by omega)]; exact hT2.2.1) (by rw [up2_i (by omega), up2_i (by omega)]; exact hT2.2.2.1) (fun b j hb hj => ?_)
    have z := hT2.2.2.2.2.2.1 b j hb hj
    refine ⟨by rw [up2_i (by omega), up2_i (by omega)]; exact z.1, ?_, ?_⟩
    · show _ = tw (vgo V) a e g b j
      rw [tw_at]
      by_cases q : b = a ∧ j = e
      · rw [if_pos q, q.1, q.2, up2_i (by omega), up2_same]
      · rw [if_neg q, up2_i (by omega), up2_i (by omega)]; exact z.2.1
    · show _ = tw (vgi V) a e u b j
      rw [tw_at]
      by_cases q : b = a ∧ j = e
      · rw [if_pos q, q.1, q.2, up2_same]
      · rw [if_neg q, up2_i (by omega), up2_i (by omega)]; exact z.2.2, by
    rw [s_gain_t ⟨(b2_ne h6), ((wC (by decide) (by decide)).mp (b2_ne h13)), ((wC (by decide) (by decide)).mp (b2_ne h25))⟩, tn_n (by omega), tn_n (by omega), gnS, if_neg (fun z => h53 z.1)]
    exact HC_fr (note_HC hn ⟨_, rfl⟩ hH (und_gn (g := g) (u := u) ha he10) k0 k1 k2) (fun b j q1 q2 => by rw [up2_i (by omega), up2_i (by omega)]), fun b j q => by rw [up2_i (by omega), up2_i (by omega)]; exact k3 b j (by omega)⟩
        · refine j_aload_n C (D 28 rfl) rfl ?_
          refine j_getr C f_X11_37 (lit (kd := 11) (n := 12) rfl) rfl rfl hr5 (D 29 rfl) ?_
          refine j_getr C f_X11_268 (sC0 hc) rfl rfl (hL _ _ _ (rC3 hc)) (D 30 rfl) ?_
          refine j_iload C (D 31 rfl) rfl ?_
          refine j_iald C (sC4 hc) (ix_n (by omega) (by decide)) (D 32 rfl) ?_
          rw [(hT.2.2.2.2.2.1 a e ha he10).2.2]
          refine j_iload C (D 33 rfl) rfl ?_
          refine j_icmp_eq C  116 (D 34 rfl) (by decide) (fun h68 => ?_) (fun h68 => ?_)
          · refine j_iload C (D 58 rfl) rfl ?_
            exact j_iret C P rfl (D 59 rfl) ⟨Nat.le_refl _, Nat.le_refl _⟩ (ac0 hT hH (by rw [a_gain_t ⟨(b2_ne h6), ((wC (by decide) (by decide)).mp (b2_ne h13)), ((wC (by decide) (by decide)).mp (b2_ne h25))⟩, tn_n (by omega), tn_n (by omega)]) (by rw [s_gain_t ⟨(b2_ne h6), ((wC (by decide) (by decide)).mp (b2_ne h13)), ((wC (by decide) (by decide)).mp (b2_ne h25))⟩, tn_n (by omega), tn_n (by omega), gnS, if_pos ⟨Classical.byContradiction (fun z => absurd h53 z), h68⟩]))
          · refine j_aload_n C (D 35 rfl) rfl ?_
            refine j_getr C f_X11_30 (lit (kd := 11) (n := 12) rfl) rfl rfl (hL _ _ _ rfl) (D 36 rfl) ?_
            refine j_iconst C (v := nI 2) (D 37 rfl) rfl ?_
            refine j_iload C (D 38 rfl) rfl ?_
            refine j_iload C (D 39 rfl) rfl ?_
            refine j_aload_n C (D 40 rfl) rfl ?_
            refine j_getr C f_X11_37 (lit (kd := 11) (n := 12) rfl) rfl rfl hr5 (D 41 rfl) ?_
            refine j_getr C f_X11_268 (sC0 hc) rfl rfl (hL _ _ _ (rC3 hc)) (D 42 rfl) ?_
            refine j_iload C (D 43 rfl) rfl ?_
            refine j_iald C (sC4 hc) (ix_n (by omega) (by decide)) (D 44 rfl) ?_
            rw [(hT.2.2.2.2.2.1 a e ha he10).2.2]
            refine j_callV C B k_X11_291 (rc_obj C (lit (kd := 2) (n := 5) rfl) rfl rfl) (c_note _ _ hL n hn hH.1 (nI 2) _ _ _) rfl rfl rfl rfl ⟨Nat.le_refl _, Nat.le_refl _⟩ (D 45 rfl) ?_
            rintro r w' ⟨rfl, I2, rfl, k0, k1, k2, k3⟩
            have hT2 := CT_of (I' := I2) hT (fun j k q1 q2 q3 => k3 _ _ (by rcases hc with rfl | rfl <;> omega)) hV.1
            refine j_aload_n C (D 46 rfl) rfl ?_
            refine j_getr C f_X11_37 (lit (kd := 11) (n := 12) rfl) rfl rfl hr5 (D 47 rfl) ?_
            refine j_getr C f_X11_265 (sC0 hc) rfl rfl (hL _ _ _ (rC2 hc)) (D 48 rfl) ?_
            refine j_iload C (D 49 rfl) rfl ?_
            refine j_iload_n C (D 50 rfl) rfl ?_
            refine j_iast C (sC3 hc) (ix_n (by omega) (by decide)) (D 51 rfl) ?_
            refine j_aload_n C (D 52 rfl) rfl ?_
            refine j_getr C f_X11_37 (lit (kd := 11) (n := 12) rfl) rfl rfl hr5 (D 53 rfl) ?_
            refine j_getr C f_X11_268 (sC0 hc) rfl rfl (hL _ _ _ (rC3 hc)) (D 54 rfl) ?_
            refine j_iload C (D 55 rfl) rfl ?_
            refine j_iload C (D 56 rfl) rfl ?_
            refine j_iast C (sC4 hc) (ix_n (by omega) (by decide)) (D 57 rfl) ?_
            refine j_iload C (D 58 rfl) rfl ?_
            exact j_iret C P rfl (D 59 rfl) ⟨Nat.le_refl _, Nat.le_refl _⟩ ⟨by rw [a_gain_t ⟨(b2_ne h6), ((wC (by decide) (by decide)).mp (b2_ne h13)), ((wC (by decide) (by decide)).mp (b2_ne h25))⟩, tn_n (by omega), tn_n (by omega)], _, L, rfl, by
    rw [s_gain_t ⟨(b2_ne h6), ((wC (by decide) (by decide)).mp (b2_ne h13)), ((wC (by decide) (by decide)).mp (b2_ne h25))⟩, tn_n (by omega), tn_n (by omega), gnS, if_neg (fun z => h68 z.2)]
    refine CT_set hT2 hE10 (fun j k q1 q2 q3 q4 q5 => by rw [up2_i (by omega), up2_i (by omega)]) (by rw [up2_i (by omega), up2_i (by omega)]; exact hT2.2.1) (by rw [up2_i (by omega), up2_i (by omega)]; exact hT2.2.2.1) (fun b j hb hj => ?_)
    have z := hT2.2.2.2.2.2.1 b j hb hj
    refine ⟨by rw [up2_i (by omega), up2_i (by omega)]; exact z.1, ?_, ?_⟩
    · show _ = tw (vgo V) a e g b j
      rw [tw_at]
      by_cases q : b = a ∧ j = e
      · rw [if_pos q, q.1, q.2, up2_i (by omega), up2_same]
      · rw [if_neg q, up2_i (by omega), up2_i (by omega)]; exact z.2.1
    · show _ = tw (vgi V) a e u b j
      rw [tw_at]
      by_cases q : b = a ∧ j = e
      · rw [if_pos q, q.1, q.2, up2_same]
      · rw [if_neg q, up2_i (by omega), up2_i (by omega)]; exact z.2.2, by
    rw [s_gain_t ⟨(b2_ne h6), ((wC (by decide) (by decide)).mp (b2_ne h13)), ((wC (by decide) (by decide)).mp (b2_ne h25))⟩, tn_n (by omega), tn_n (by omega), gnS, if_neg (fun z => h68 z.2)]
    exact HC_fr (note_HC hn ⟨_, rfl⟩ hH (und_gn (g := g) (u := u) ha he10) k0 k1 k2) (fun b j q1 q2 => by rw [up2_i (by omega), up2_i (by omega)]), fun b j q => by rw [up2_i (by omega), up2_i (by omega)]; exact k3 b j (by omega)⟩
      · refine j_bipush C (v := (-2)) (D 13 rfl) rfl ?_
        exact j_iret C P rfl (D 14 rfl) ⟨Nat.le_refl _, Nat.le_refl _⟩ (ac0 hT hH (a_gain_f (fun z => b2_eq h25 ((wC (by decide) (by decide)).mpr z.2.2))).symm (s_gain_f (fun z => b2_eq h25 ((wC (by decide) (by decide)).mpr z.2.2))).symm)
def a_tie (V : VT) (ld : Bool) (t : Int32) : Int32 := if ld = true ∧ wi 0 2 t then vt V else -2
theorem a_tie_t {V : VT} {ld : Bool} {t : Int32} (hX : ld = true ∧ wi 0 2 t) : a_tie V ld t = vt V := if_pos hX
theorem a_tie_f {V : VT} {ld : Bool} {t : Int32} (hX : ¬ (ld = true ∧ wi 0 2 t)) : a_tie V ld t = -2 := if_neg hX
def s_tie (V : VT) (ld : Bool) (n : Nat) (h : Nat → SN) (t : Int32) : S3 := if ld = true ∧ wi 0 2 t then tiS V n h t else (V, n, h)
theorem s_tie_t {V : VT} {ld : Bool} {n : Nat} {h : Nat → SN} {t : Int32} (hX : ld = true ∧ wi 0 2 t) : s_tie V ld n h t = tiS V n h t := if_pos hX
theorem s_tie_f {V : VT} {ld : Bool} {n : Nat} {h : Nat → SN} {t : Int32} (hX : ¬ (ld = true ∧ wi 0 2 t)) : s_tie V ld n h t = (V, n, h) := if_neg hX
set_option maxRecDepth 20000 in
theorem c_tieQ (l : Launch) (G : GT) {c : Nat} (hc : isC c) {I : Nat → Nat → Int32} {L : Nat → Nat → Int64} {R : Nat → Nat → Option Nat} (hL : Lay R) (hr5 : R 0 5 = some c) {V : VT} (hV : WV V) (hT : CT I c V) (ld : Bool) (hld : I 0 6 = b2 (ld = true)) {n : Nat} {h : Nat → SN} (hn : n ≤ 10) (hH : HC I V n h) (t : Int32) : Mt l G mX11_tie (4) 0 0 [.ref (ra G 0), .int t] (wd I L R) (aC (a_tie V ld t) I R c (s_tie V ld n h t)) := by
  refine mt_of (own := RX11) (by decide) rfl rfl (fun Z C P B => ?_)
  have D := @dc_of _ _ dX11_tie
  have hE10 := hV.1
  have hA8 := hV.2.1
  have hcr := isC_rng hc
  refine j_aload_n C (D 0 rfl) rfl ?_
  refine j_geti C f_X11_85 (lit (kd := 11) (n := 12) rfl) rfl rfl (D 1 rfl) ?_
  rw [hld]
  refine j_if_eq C  16 (D 2 rfl) (by decide) (fun h4 => ?_) (fun h4 => ?_)
  · refine j_bipush C (v := (-2)) (D 8 rfl) rfl ?_
    exact j_iret C P rfl (D 9 rfl) ⟨Nat.le_refl _, Nat.le_refl _⟩ (ac0 hT hH (a_tie_f (fun z => b2_eq h4 z.1)).symm (s_tie_f (fun z => b2_eq h4 z.1)).symm)
  · refine j_iload_n C (D 3 rfl) rfl ?_
    refine j_iconst C (v := nI 0) (D 4 rfl) rfl ?_
    refine j_iconst C (v := nI 2) (D 5 rfl) rfl ?_
    refine j_cSp C B k_X11_158 (c_isWithin _ _ _ _ _ _) rfl rfl rfl rfl ⟨Nat.le_refl _, Nat.le_refl _⟩ (D 6 rfl) ?_
    refine j_if_ne C  19 (D 7 rfl) (by decide) (fun h13 => ?_) (fun h13 => ?_)
    · refine j_aload_n C (D 10 rfl) rfl ?_
      refine j_getr C f_X11_37 (lit (kd := 11) (n := 12) rfl) rfl rfl hr5 (D 11 rfl) ?_
      refine j_geti C f_X11_113 (sC0 hc) rfl rfl (D 12 rfl) ?_
      rw [hT.2.2.1]
      refine j_istore_n C (D 13 rfl) rfl ?_
      refine j_iload_n C (D 14 rfl) rfl ?_
      refine j_iload_n C (D 15 rfl) rfl ?_
      refine j_icmp_eq C  51 (D 16 rfl) (by decide) (fun h29 => ?_) (fun h29 => ?_)
      · refine j_iload_n C (D 28 rfl) rfl ?_
        exact j_iret C P rfl (D 29 rfl) ⟨Nat.le_refl _, Nat.le_refl _⟩ (ac0 hT hH (by rw [a_tie_t ⟨(b2_ne h4), ((wC (by decide) (by decide)).mp (b2_ne h13))⟩]) (by rw [s_tie_t ⟨(b2_ne h4), ((wC (by decide) (by decide)).mp (b2_ne h13))⟩, tiS, if_pos h29]))
      · refine j_aload_n C (D 17 rfl) rfl ?_
        refine j_getr C f_X11_30 (lit (kd := 11) (n := 12) rfl) rfl rfl (hL _ _ _ rfl) (D 18 rfl) ?_
        refine j_iconst C (v := nI 3) (D 19 rfl) rfl ?_
        refine j_iconst C (v := nI 0) (D 20 rfl) rfl ?_
        refine j_iload_n C (D 21 rfl) rfl ?_
        refine j_iconst C (v := nI 0) (D 22 rfl) rfl ?_
        refine j_callV C B k_X11_291 (rc_obj C (lit (kd := 2) (n := 5) rfl) rfl rfl) (c_note _ _ hL n hn hH.1 (nI 3) _ _ _) rfl rfl rfl rfl ⟨Nat.le_refl _, Nat.le_refl _⟩ (D 23 rfl) ?_
        rintro r w' ⟨rfl, I2, rfl, k0, k1, k2, k3⟩
        have hT2 := CT_of (I' := I2) hT (fun j k q1 q2 q3 => k3 _ _ (by rcases hc with rfl | rfl <;> omega)) hV.1
        refine j_aload_n C (D 24 rfl) rfl ?_
        refine j_getr C f_X11_37 (lit (kd := 11) (n := 12) rfl) rfl rfl hr5 (D 25 rfl) ?_
        refine j_iload_n C (D 26 rfl) rfl ?_
        refine j_puti C f_X11_113 (sC0 hc) rfl rfl (D 27 rfl) ?_
        refine j_iload_n C (D 28 rfl) rfl ?_
        exact j_iret C P rfl (D 29 rfl) ⟨Nat.le_refl _, Nat.le_refl _⟩ ⟨by rw [a_tie_t ⟨(b2_ne h4), ((wC (by decide) (by decide)).mp (b2_ne h13))⟩], _, L, rfl, by
    rw [s_tie_t ⟨(b2_ne h4), ((wC (by decide) (by decide)).mp (b2_ne h13))⟩, tiS, if_neg h29]
    exact CT_set hT2 hE10 (fun j k q1 q2 q3 q4 q5 => up2_i (by omega)) (by rw [up2_i (by omega)]; exact hT2.2.1) (by rw [up2_same]) (fun b j hb hj => by rw [up2_i (by omega), up2_i (by omega), up2_i (by omega)]; exact hT2.2.2.2.2.2.1 b j hb hj), by
    rw [s_tie_t ⟨(b2_ne h4), ((wC (by decide) (by decide)).mp (b2_ne h13))⟩, tiS, if_neg h29]
    exact HC_fr (note_HC hn ⟨_, rfl⟩ hH (und_ti (t := t) (nI 0) (nI 0)) k0 k1 k2) (fun b j q1 q2 => up2_i (by omega)), fun b j q => by rw [up2_i (by omega)]; exact k3 b j (by omega)⟩
    · refine j_bipush C (v := (-2)) (D 8 rfl) rfl ?_
      exact j_iret C P rfl (D 9 rfl) ⟨Nat.le_refl _, Nat.le_refl _⟩ (ac0 hT hH (a_tie_f (fun z => b2_eq h13 ((wC (by decide) (by decide)).mpr z.2))).symm (s_tie_f (fun z => b2_eq h13 ((wC (by decide) (by decide)).mpr z.2))).symm)

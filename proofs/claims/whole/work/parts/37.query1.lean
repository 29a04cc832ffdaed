/-! PUBLIC QUERIES: the answer, and only scratch has changed -/
def qC (v : Int32) (I : Nat → Nat → Int32) (R : Nat → Nat → Option Nat) : Option Value → Wd → Prop := fun r w' => r = some (.int v) ∧ ∃ I' L', w' = wd I' L' R ∧ FrS I I'
def qM (v : Int32) (I : Nat → Nat → Int32) (R : Nat → Nat → Option Nat) : Option Value → Wd → Prop := fun r w' => r = some (.int v) ∧ ∃ I' L', w' = wd I' L' R ∧ FrM I I'
theorem qc0 {v v' : Int32} {I : Nat → Nat → Int32} {L : Nat → Nat → Int64} {R : Nat → Nat → Option Nat} (h : v = v') : qC v' I R (some (.int v)) (wd I L R) := ⟨by rw [h], I, L, rfl, FrS.rf I⟩
theorem qm0 {v v' : Int32} {I : Nat → Nat → Int32} {L : Nat → Nat → Int64} {R : Nat → Nat → Option Nat} (h : v = v') : qM v' I R (some (.int v)) (wd I L R) := ⟨by rw [h], I, L, rfl, FrM.rf I⟩
theorem qc1 {v v' : Int32} {I I' : Nat → Nat → Int32} {L : Nat → Nat → Int64} {R : Nat → Nat → Option Nat} (hf : FrS I I') (h : v = v') : qC v' I R (some (.int v)) (wd I' L R) := ⟨by rw [h], I', L, rfl, hf⟩
theorem qm1 {v v' : Int32} {I I' : Nat → Nat → Int32} {L : Nat → Nat → Int64} {R : Nat → Nat → Option Nat} (hf : FrM I I') (h : v = v') : qM v' I R (some (.int v)) (wd I' L R) := ⟨by rw [h], I', L, rfl, hf⟩
abbrev inR (n : Nat) (x : Int32) : Prop := 0 ≤ x.toInt ∧ x.toInt < (n : Int)
abbrev wi (a b : Int) (x : Int32) : Prop := a ≤ x.toInt ∧ x.toInt ≤ b
theorem wC {lo hi x : Int32} {a b : Int} (h1 : lo.toInt = a) (h2 : hi.toInt = b) : (lo ≤ x ∧ x ≤ hi) ↔ wi a b x := by rw [i_le, i_le, h1, h2]
theorem wL {lo hi : Int64} {x : Int32} {a b : Int} (h1 : lo.toInt = a) (h2 : hi.toInt = b) : (lo.toInt ≤ x.toInt64.toInt ∧ x.toInt64.toInt ≤ hi.toInt) ↔ wi a b x := by rw [i_l, h1, h2]
def tn (x : Int32) : Nat := x.toInt.toNat
theorem tn_n {n : Nat} (h : n < 2147483648) : tn (nI n) = n := by unfold tn; rw [nI_int h]; rfl
theorem inR_n {n : Nat} {x : Int32} (h : inR n x) : ∃ k, k < n ∧ x = nI k := by
  obtain ⟨k, _, h2, h3⟩ := i_nat h.1
  exact ⟨k, by have := h.2; omega, h2⟩
theorem wi_n {a b : Nat} {x : Int32} (h : wi a b x) : ∃ k, a ≤ k ∧ k ≤ b ∧ x = nI k := by
  obtain ⟨k, _, h2, h3⟩ := i_nat (a := x) (by have := h.1; omega)
  exact ⟨k, by have := h.1; omega, by have := h.2; omega, h2⟩
theorem mk_ok {m : Int32} (h : wi 0 99999 m) : okM m := Or.inr h
theorem b2_ld {ld : Bool} (h : b2 (ld = true) = 0) : ¬ ld = true := b2_eq h
theorem sw_n (n : Nat) (x : Int32) : (∃ k, k ≤ n ∧ x = nI k) ∨ (x.toInt < 0 ∨ (n : Int) < x.toInt) := by
  by_cases h : 0 ≤ x.toInt ∧ x.toInt ≤ n
  · obtain ⟨k, _, h2, h3⟩ := i_nat h.1
    exact Or.inl ⟨k, by omega, h2⟩
  · exact Or.inr (by omega)
set_option maxRecDepth 20000 in
theorem c_hasEvent (l : Launch) (G : GT) {c : Nat} (hc : isC c) {I : Nat → Nat → Int32} {L : Nat → Nat → Int64} {R : Nat → Nat → Option Nat} (hL : Lay R) (hr5 : R 0 5 = some c) {V : VT} (hV : WV V) (hT : CT I c V) (ld : Bool) (hld : I 0 6 = b2 (ld = true)) (e : Int32) : Mt l G mX11_hasEvent (0) 0 0 [.ref (ra G 0), .int e] (wd I L R) (pV (.int (b2 (inR (vE V) e))) (wd I L R)) := by
  refine mt_of (own := RX11) (by decide) rfl rfl (fun Z C P B => ?_)
  have D := @dc_of _ _ dX11_hasEvent
  have hE10 := hV.1
  have hA8 := hV.2.1
  have hB4 := hV.2.2.1
  refine j_iload_n C (D 0 rfl) rfl ?_
  refine j_if_lt C  19 (D 1 rfl) (by decide) (fun h1 => ?_) (fun h1 => ?_)
  · refine j_iconst C (v := nI 0) (D 9 rfl) rfl ?_
    exact j_zret C P rfl (by first | exact Or.inl rfl | exact Or.inr rfl | assumption) (D 10 rfl) ⟨Nat.le_refl _, Nat.le_refl _⟩ (pv_i (b2_f (fun z => by have q := i_lt.mp h1; rw [i0] at q; have := z.1; omega)))
  · refine j_iload_n C (D 2 rfl) rfl ?_
    refine j_aload_n C (D 3 rfl) rfl ?_
    refine j_getr C f_X11_37 (lit (kd := 11) (n := 12) rfl) rfl rfl hr5 (D 4 rfl) ?_
    refine j_geti C f_X11_98 (sC0 hc) rfl rfl (D 5 rfl) ?_
    rw [hT.1]
    refine j_icmp_ge C  19 (D 6 rfl) (by decide) (fun h12 => ?_) (fun h12 => ?_)
    · refine j_iconst C (v := nI 0) (D 9 rfl) rfl ?_
      exact j_zret C P rfl (by first | exact Or.inl rfl | exact Or.inr rfl | assumption) (D 10 rfl) ⟨Nat.le_refl _, Nat.le_refl _⟩ (pv_i (b2_f (fun z => by have q := i_le.mp h12; rw [nI_int (by omega)] at q; have := z.2; omega)))
    · refine j_iconst C (v := nI 1) (D 7 rfl) rfl ?_
      refine j_goto C 20 (D 8 rfl) (by decide) ?_
      exact j_zret C P rfl (by first | exact Or.inl rfl | exact Or.inr rfl | assumption) (D 10 rfl) ⟨Nat.le_refl _, Nat.le_refl _⟩ (pv_i (b2_t ⟨by have q : ¬ e.toInt < 0 := fun z => h1 (i_lt.mpr (by rw [i0]; exact z)); omega, by have q : ¬ ((vE V : Nat) : Int) ≤ e.toInt := fun z => h12 (i_le.mpr (by rw [nI_int (by omega)]; exact z)); omega⟩))
set_option maxRecDepth 20000 in
theorem c_hasAthlete (l : Launch) (G : GT) {c : Nat} (hc : isC c) {I : Nat → Nat → Int32} {L : Nat → Nat → Int64} {R : Nat → Nat → Option Nat} (hL : Lay R) (hr5 : R 0 5 = some c) {V : VT} (hV : WV V) (hT : CT I c V) (ld : Bool) (hld : I 0 6 = b2 (ld = true)) (e : Int32) : Mt l G mX11_hasAthlete (0) 0 0 [.ref (ra G 0), .int e] (wd I L R) (pV (.int (b2 (inR (vA V) e))) (wd I L R)) := by
  refine mt_of (own := RX11) (by decide) rfl rfl (fun Z C P B => ?_)
  have D := @dc_of _ _ dX11_hasAthlete
  have hE10 := hV.1
  have hA8 := hV.2.1
  have hB4 := hV.2.2.1
  refine j_iload_n C (D 0 rfl) rfl ?_
  refine j_if_lt C  19 (D 1 rfl) (by decide) (fun h1 => ?_) (fun h1 => ?_)
  · refine j_iconst C (v := nI 0) (D 9 rfl) rfl ?_
    exact j_zret C P rfl (by first | exact Or.inl rfl | exact Or.inr rfl | assumption) (D 10 rfl) ⟨Nat.le_refl _, Nat.le_refl _⟩ (pv_i (b2_f (fun z => by have q := i_lt.mp h1; rw [i0] at q; have := z.1; omega)))
  · refine j_iload_n C (D 2 rfl) rfl ?_
    refine j_aload_n C (D 3 rfl) rfl ?_
    refine j_getr C f_X11_37 (lit (kd := 11) (n := 12) rfl) rfl rfl hr5 (D 4 rfl) ?_
    refine j_geti C f_X11_101 (sC0 hc) rfl rfl (D 5 rfl) ?_
    rw [hT.2.1]
    refine j_icmp_ge C  19 (D 6 rfl) (by decide) (fun h12 => ?_) (fun h12 => ?_)
    · refine j_iconst C (v := nI 0) (D 9 rfl) rfl ?_
      exact j_zret C P rfl (by first | exact Or.inl rfl | exact Or.inr rfl | assumption) (D 10 rfl) ⟨Nat.le_refl _, Nat.le_refl _⟩ (pv_i (b2_f (fun z => by have q := i_le.mp h12; rw [nI_int (by omega)] at q; have := z.2; omega)))
    · refine j_iconst C (v := nI 1) (D 7 rfl) rfl ?_
      refine j_goto C 20 (D 8 rfl) (by decide) ?_
      exact j_zret C P rfl (by first | exact Or.inl rfl | exact Or.inr rfl | assumption) (D 10 rfl) ⟨Nat.le_refl _, Nat.le_refl _⟩ (pv_i (b2_t ⟨by have q : ¬ e.toInt < 0 := fun z => h1 (i_lt.mpr (by rw [i0]; exact z)); omega, by have q : ¬ ((vA V : Nat) : Int) ≤ e.toInt := fun z => h12 (i_le.mpr (by rw [nI_int (by omega)]; exact z)); omega⟩))
set_option maxRecDepth 20000 in
theorem c_hasBonus (l : Launch) (G : GT) {c : Nat} (hc : isC c) {I : Nat → Nat → Int32} {L : Nat → Nat → Int64} {R : Nat → Nat → Option Nat} (hL : Lay R) (hr5 : R 0 5 = some c) {V : VT} (hV : WV V) (hT : CT I c V) (ld : Bool) (hld : I 0 6 = b2 (ld = true)) (e : Int32) : Mt l G mX11_hasBonus (0) 0 0 [.ref (ra G 0), .int e] (wd I L R) (pV (.int (b2 (inR (vB V) e))) (wd I L R)) := by
  refine mt_of (own := RX11) (by decide) rfl rfl (fun Z C P B => ?_)
  have D := @dc_of _ _ dX11_hasBonus
  have hE10 := hV.1
  have hA8 := hV.2.1
  have hB4 := hV.2.2.1
  refine j_iload_n C (D 0 rfl) rfl ?_
  refine j_if_lt C  22 (D 1 rfl) (by decide) (fun h1 => ?_) (fun h1 => ?_)
  · refine j_iconst C (v := nI 0) (D 10 rfl) rfl ?_
    exact j_zret C P rfl (by first | exact Or.inl rfl | exact Or.inr rfl | assumption) (D 11 rfl) ⟨Nat.le_refl _, Nat.le_refl _⟩ (pv_i (b2_f (fun z => by have q := i_lt.mp h1; rw [i0] at q; have := z.1; omega)))
  · refine j_iload_n C (D 2 rfl) rfl ?_
    refine j_aload_n C (D 3 rfl) rfl ?_
    refine j_getr C f_X11_37 (lit (kd := 11) (n := 12) rfl) rfl rfl hr5 (D 4 rfl) ?_
    refine j_getr C f_X11_104 (sC0 hc) rfl rfl (hL _ _ _ (rC4 hc)) (D 5 rfl) ?_
    refine j_geti C f_X11_108 (sC5 hc) rfl rfl (D 6 rfl) ?_
    rw [hT.2.2.2.1]
    refine j_icmp_ge C  22 (D 7 rfl) (by decide) (fun h15 => ?_) (fun h15 => ?_)
    · refine j_iconst C (v := nI 0) (D 10 rfl) rfl ?_
      exact j_zret C P rfl (by first | exact Or.inl rfl | exact Or.inr rfl | assumption) (D 11 rfl) ⟨Nat.le_refl _, Nat.le_refl _⟩ (pv_i (b2_f (fun z => by have q := i_le.mp h15; rw [nI_int (by omega)] at q; have := z.2; omega)))
    · refine j_iconst C (v := nI 1) (D 8 rfl) rfl ?_
      refine j_goto C 23 (D 9 rfl) (by decide) ?_
      exact j_zret C P rfl (by first | exact Or.inl rfl | exact Or.inr rfl | assumption) (D 11 rfl) ⟨Nat.le_refl _, Nat.le_refl _⟩ (pv_i (b2_t ⟨by have q : ¬ e.toInt < 0 := fun z => h1 (i_lt.mpr (by rw [i0]; exact z)); omega, by have q : ¬ ((vB V : Nat) : Int) ≤ e.toInt := fun z => h15 (i_le.mpr (by rw [nI_int (by omega)]; exact z)); omega⟩))
set_option maxRecDepth 20000 in
theorem c_hasCell (l : Launch) (G : GT) {c : Nat} (hc : isC c) {I : Nat → Nat → Int32} {L : Nat → Nat → Int64} {R : Nat → Nat → Option Nat} (hL : Lay R) (hr5 : R 0 5 = some c) {V : VT} (hV : WV V) (hT : CT I c V) (ld : Bool) (hld : I 0 6 = b2 (ld = true)) (a e : Int32) : Mt l G mX11_hasCell (1) 0 0 [.ref (ra G 0), .int a, .int e] (wd I L R) (pV (.int (b2 (inR (vA V) a ∧ inR (vE V) e))) (wd I L R)) := by
  refine mt_of (own := RX11) (by decide) rfl rfl (fun Z C P B => ?_)
  have D := @dc_of _ _ dX11_hasCell
  refine j_aload_n C (D 0 rfl) rfl ?_
  refine j_iload_n C (D 1 rfl) rfl ?_
  refine j_cVp C B k_X11_184 (rc_obj C (lit (kd := 11) (n := 12) rfl) rfl rfl) (c_hasAthlete _ _ hc hL hr5 hV hT ld hld a) rfl rfl rfl rfl ⟨Nat.le_refl _, Nat.le_refl _⟩ (D 2 rfl) ?_
  refine j_if_eq C  20 (D 3 rfl) (by decide) (fun h5 => ?_) (fun h5 => ?_)
  · refine j_iconst C (v := nI 0) (D 10 rfl) rfl ?_
    exact j_zret C P rfl (by first | exact Or.inl rfl | exact Or.inr rfl | assumption) (D 11 rfl) ⟨Nat.le_refl _, Nat.le_refl _⟩ (pv_i (b2_f (fun z => b2_eq h5 z.1)))
  · refine j_aload_n C (D 4 rfl) rfl ?_
    refine j_iload_n C (D 5 rfl) rfl ?_
    refine j_cVp C B k_X11_120 (rc_obj C (lit (kd := 11) (n := 12) rfl) rfl rfl) (c_hasEvent _ _ hc hL hr5 hV hT ld hld e) rfl rfl rfl rfl ⟨Nat.le_refl _, Nat.le_refl _⟩ (D 6 rfl) ?_
    refine j_if_eq C  20 (D 7 rfl) (by decide) (fun h13 => ?_) (fun h13 => ?_)
    · refine j_iconst C (v := nI 0) (D 10 rfl) rfl ?_
      exact j_zret C P rfl (by first | exact Or.inl rfl | exact Or.inr rfl | assumption) (D 11 rfl) ⟨Nat.le_refl _, Nat.le_refl _⟩ (pv_i (b2_f (fun z => b2_eq h13 z.2)))
    · refine j_iconst C (v := nI 1) (D 8 rfl) rfl ?_
      refine j_goto C 21 (D 9 rfl) (by decide) ?_
      exact j_zret C P rfl (by first | exact Or.inl rfl | exact Or.inr rfl | assumption) (D 11 rfl) ⟨Nat.le_refl _, Nat.le_refl _⟩ (pv_i (b2_t ⟨b2_ne h5, b2_ne h13⟩))
def a_points (V : VT) (ld : Bool) (e m : Int32) : Int32 := if inR (vE V) e ∧ wi 0 99999 m then pts (vev V (tn e)) m else -2
theorem a_points_t {V : VT} {ld : Bool} {e m : Int32} (hX : inR (vE V) e ∧ wi 0 99999 m) : a_points V ld e m = pts (vev V (tn e)) m := if_pos hX
theorem a_points_f {V : VT} {ld : Bool} {e m : Int32} (hX : ¬ (inR (vE V) e ∧ wi 0 99999 m)) : a_points V ld e m = -2 := if_neg hX
set_option maxRecDepth 20000 in
theorem c_pointsQ (l : Launch) (G : GT) {c : Nat} (hc : isC c) {I : Nat → Nat → Int32} {L : Nat → Nat → Int64} {R : Nat → Nat → Option Nat} (hL : Lay R) (hr5 : R 0 5 = some c) {V : VT} (hV : WV V) (hT : CT I c V) (ld : Bool) (hld : I 0 6 = b2 (ld = true)) (e m : Int32) : Mt l G mX11_points (5) 0 0 [.ref (ra G 0), .int e, .int m] (wd I L R) (qC (a_points V ld e m) I R) := by
  refine mt_of (own := RX11) (by decide) rfl rfl (fun Z C P B => ?_)
  have D := @dc_of _ _ dX11_points
  have hE10 := hV.1
  have hA8 := hV.2.1
  refine j_aload_n C (D 0 rfl) rfl ?_
  refine j_iload_n C (D 1 rfl) rfl ?_
  refine j_cVp C B k_X11_120 (rc_obj C (lit (kd := 11) (n := 12) rfl) rfl rfl) (c_hasEvent _ _ hc hL hr5 hV hT ld hld _) rfl rfl rfl rfl ⟨Nat.le_refl _, Nat.le_refl _⟩ (D 2 rfl) ?_
  refine j_if_eq C  15 (D 3 rfl) (by decide) (fun h5 => ?_) (fun h5 => ?_)
  · refine j_bipush C (v := (-2)) (D 7 rfl) rfl ?_
    exact j_iret C P rfl (D 8 rfl) ⟨Nat.le_refl _, Nat.le_refl _⟩ (qc0 (a_points_f (fun z => b2_eq h5 z.1)).symm)
  · refine j_iload_n C (D 4 rfl) rfl ?_
    refine j_cSp C B k_X11_151 (c_isMark _ _ _ _) rfl rfl rfl rfl ⟨Nat.le_refl _, Nat.le_refl _⟩ (D 5 rfl) ?_
    refine j_if_ne C  18 (D 6 rfl) (by decide) (fun h12 => ?_) (fun h12 => ?_)
    · obtain ⟨e, hk, rfl⟩ := inR_n (b2_ne h5)
      have he10 : e < 10 := by omega
      refine j_aload_n C (D 9 rfl) rfl ?_
      refine j_getr C f_X11_37 (lit (kd := 11) (n := 12) rfl) rfl rfl hr5 (D 10 rfl) ?_
      refine j_getr C f_X11_124 (sC0 hc) rfl rfl (hL _ _ _ (rC0 hc)) (D 11 rfl) ?_
      refine j_iload_n C (D 12 rfl) rfl ?_
      refine j_aald C (kd := 1) (sC1 hc) rfl (ix_n he10 (by decide)) (hL _ _ _ (rCT hc he10)) (D 13 rfl) ?_
      refine j_iload_n C (D 14 rfl) rfl ?_
      refine j_cVp C B k_X11_154 (rc_obj C (sT0 (isT_of hc he10)) rfl rfl) (c_valueOf _ _ (isT_of hc he10) hL (hV.2.2.2.2.1 e hk) (hT.2.2.2.2.1 e hk) _ (mk_ok ((wC (by decide) (by decide)).mp (b2_ne h12)))) rfl rfl rfl rfl ⟨Nat.le_refl _, Nat.le_refl _⟩ (D 15 rfl) ?_
      exact j_iret C P rfl (D 16 rfl) ⟨Nat.le_refl _, Nat.le_refl _⟩ (qc0 (by rw [a_points_t ⟨(b2_ne h5), ((wC (by decide) (by decide)).mp (b2_ne h12))⟩, tn_n (by omega)]))
    · refine j_bipush C (v := (-2)) (D 7 rfl) rfl ?_
      exact j_iret C P rfl (D 8 rfl) ⟨Nat.le_refl _, Nat.le_refl _⟩ (qc0 (a_points_f (fun z => b2_eq h12 ((wC (by decide) (by decide)).mpr z.2))).symm)
set_option maxRecDepth 20000 in
theorem d_pointsQ (l : Launch) (G : GT) {I : Nat → Nat → Int32} {L : Nat → Nat → Int64} {R : Nat → Nat → Option Nat} (hL : Lay R) {V : VT} (hV : WV V) (hM : MT I V) (ld : Bool) (hld : I 172 1 = b2 (ld = true)) (e m : Int32) : Mt l G mX12_points (5) 0 0 [.ref (ra G 172), .int e, .int m] (wd I L R) (qM (a_points V ld e m) I R) := by
  refine mt_of (own := RX12) (by decide) rfl rfl (fun Z C P B => ?_)
  have D := @dc_of _ _ dX12_points
  have hE10 := hV.1
  have hA8 := hV.2.1
  refine j_aload_n C (D 0 rfl) rfl ?_
  refine j_iload_n C (D 1 rfl) rfl ?_
  refine j_cVp C B k_X12_320 (rc_obj C (lit (kd := 12) (n := 48) rfl) rfl rfl) (d_isEvent _ _ hL (vE V) hM.1 (by omega) _) rfl rfl rfl rfl ⟨Nat.le_refl _, Nat.le_refl _⟩ (D 2 rfl) ?_
  refine j_if_eq C  24 (D 3 rfl) (by decide) (fun h5 => ?_) (fun h5 => ?_)
  · refine j_bipush C (v := (-2)) (D 12 rfl) rfl ?_
    exact j_iret C P rfl (D 13 rfl) ⟨Nat.le_refl _, Nat.le_refl _⟩ (qm0 (a_points_f (fun z => b2_eq h5 z.1)).symm)
  · refine j_iload_n C (D 4 rfl) rfl ?_
    refine j_cSp C B k_X12_347 (d_isMark _ _ _ _) rfl rfl rfl rfl ⟨Nat.le_refl _, Nat.le_refl _⟩ (D 5 rfl) ?_
    refine j_if_eq C  24 (D 6 rfl) (by decide) (fun h12 => ?_) (fun h12 => ?_)
    · refine j_bipush C (v := (-2)) (D 12 rfl) rfl ?_
      exact j_iret C P rfl (D 13 rfl) ⟨Nat.le_refl _, Nat.le_refl _⟩ (qm0 (a_points_f (fun z => b2_eq h12 ((wC (by decide) (by decide)).mpr z.2))).symm)
    · obtain ⟨e, hk, rfl⟩ := inR_n (b2_ne h5)
      have he10 : e < 10 := by omega
      have hme : mE I e = vev V e := hM.2.2.2.2.1 e hk
      have hWE : WE (mE I e) := by rw [hme]; exact hV.2.2.2.2.1 e hk
      refine j_aload_n C (D 7 rfl) rfl ?_
      refine j_iload_n C (D 8 rfl) rfl ?_
      refine j_iload_n C (D 9 rfl) rfl ?_
      refine j_cVp C B k_X12_350 (rc_obj C (lit (kd := 12) (n := 48) rfl) rfl rfl) (d_pointsOf _ _ hL e he10 hWE _ (mk_ok ((wC (by decide) (by decide)).mp (b2_ne h12)))) rfl rfl rfl rfl ⟨Nat.le_refl _, Nat.le_refl _⟩ (D 10 rfl) ?_
      refine j_goto C 26 (D 11 rfl) (by decide) ?_
      exact j_iret C P rfl (D 13 rfl) ⟨Nat.le_refl _, Nat.le_refl _⟩ (qm0 (by rw [a_points_t ⟨(b2_ne h5), ((wC (by decide) (by decide)).mp (b2_ne h12))⟩, tn_n (by omega), hme]))
def a_worst (V : VT) (ld : Bool) (e m : Int32) : Int32 := if inR (vE V) e ∧ wi 0 2000 m then wstS (vev V (tn e)) m else -2
theorem a_worst_t {V : VT} {ld : Bool} {e m : Int32} (hX : inR (vE V) e ∧ wi 0 2000 m) : a_worst V ld e m = wstS (vev V (tn e)) m := if_pos hX
theorem a_worst_f {V : VT} {ld : Bool} {e m : Int32} (hX : ¬ (inR (vE V) e ∧ wi 0 2000 m)) : a_worst V ld e m = -2 := if_neg hX
set_option maxRecDepth 20000 in
theorem c_worstQ (l : Launch) (G : GT) {c : Nat} (hc : isC c) {I : Nat → Nat → Int32} {L : Nat → Nat → Int64} {R : Nat → Nat → Option Nat} (hL : Lay R) (hr5 : R 0 5 = some c) {V : VT} (hV : WV V) (hT : CT I c V) (ld : Bool) (hld : I 0 6 = b2 (ld = true)) (e m : Int32) : Mt l G mX11_worst (5) 0 0 [.ref (ra G 0), .int e, .int m] (wd I L R) (qC (a_worst V ld e m) I R) := by
  refine mt_of (own := RX11) (by decide) rfl rfl (fun Z C P B => ?_)
  have D := @dc_of _ _ dX11_worst
  have hE10 := hV.1
  have hA8 := hV.2.1
  refine j_aload_n C (D 0 rfl) rfl ?_
  refine j_iload_n C (D 1 rfl) rfl ?_
  refine j_cVp C B k_X11_120 (rc_obj C (lit (kd := 11) (n := 12) rfl) rfl rfl) (c_hasEvent _ _ hc hL hr5 hV hT ld hld _) rfl rfl rfl rfl ⟨Nat.le_refl _, Nat.le_refl _⟩ (D 2 rfl) ?_
  refine j_if_eq C  19 (D 3 rfl) (by decide) (fun h5 => ?_) (fun h5 => ?_)
  · refine j_bipush C (v := (-2)) (D 9 rfl) rfl ?_
    exact j_iret C P rfl (D 10 rfl) ⟨Nat.le_refl _, Nat.le_refl _⟩ (qc0 (a_worst_f (fun z => b2_eq h5 z.1)).symm)
  · refine j_iload_n C (D 4 rfl) rfl ?_
    refine j_iconst C (v := nI 0) (D 5 rfl) rfl ?_
    refine j_sipush C (v := nI 2000) (D 6 rfl) rfl ?_
    refine j_cSp C B k_X11_158 (c_isWithin _ _ _ _ _ _) rfl rfl rfl rfl ⟨Nat.le_refl _, Nat.le_refl _⟩ (D 7 rfl) ?_
    refine j_if_ne C  22 (D 8 rfl) (by decide) (fun h16 => ?_) (fun h16 => ?_)
    · obtain ⟨e, hk, rfl⟩ := inR_n (b2_ne h5)
      have he10 : e < 10 := by omega
      refine j_aload_n C (D 11 rfl) rfl ?_
      refine j_getr C f_X11_37 (lit (kd := 11) (n := 12) rfl) rfl rfl hr5 (D 12 rfl) ?_
      refine j_getr C f_X11_124 (sC0 hc) rfl rfl (hL _ _ _ (rC0 hc)) (D 13 rfl) ?_
      refine j_iload_n C (D 14 rfl) rfl ?_
      refine j_aald C (kd := 1) (sC1 hc) rfl (ix_n he10 (by decide)) (hL _ _ _ (rCT hc he10)) (D 15 rfl) ?_
      refine j_iload_n C (D 16 rfl) rfl ?_
      refine j_cVp C B k_X11_162 (rc_obj C (sT0 (isT_of hc he10)) rfl rfl) (c_worstFor _ _ (isT_of hc he10) hL (hV.2.2.2.2.1 e hk) (hT.2.2.2.2.1 e hk) _) rfl rfl rfl rfl ⟨Nat.le_refl _, Nat.le_refl _⟩ (D 17 rfl) ?_
      exact j_iret C P rfl (D 18 rfl) ⟨Nat.le_refl _, Nat.le_refl _⟩ (qc0 (by rw [a_worst_t ⟨(b2_ne h5), ((wC (by decide) (by decide)).mp (b2_ne h16))⟩, tn_n (by omega)]))
    · refine j_bipush C (v := (-2)) (D 9 rfl) rfl ?_
      exact j_iret C P rfl (D 10 rfl) ⟨Nat.le_refl _, Nat.le_refl _⟩ (qc0 (a_worst_f (fun z => b2_eq h16 ((wC (by decide) (by decide)).mpr z.2))).symm)
set_option maxRecDepth 20000 in
theorem d_worstQ (l : Launch) (G : GT) {I : Nat → Nat → Int32} {L : Nat → Nat → Int64} {R : Nat → Nat → Option Nat} (hL : Lay R) {V : VT} (hV : WV V) (hM : MT I V) (ld : Bool) (hld : I 172 1 = b2 (ld = true)) (e m : Int32) : Mt l G mX12_worst (5) 0 0 [.ref (ra G 172), .int e, .int m] (wd I L R) (qM (a_worst V ld e m) I R) := by
  refine mt_of (own := RX12) (by decide) rfl rfl (fun Z C P B => ?_)
  have D := @dc_of _ _ dX12_worst
  have hE10 := hV.1
  have hA8 := hV.2.1
  refine j_aload_n C (D 0 rfl) rfl ?_
  refine j_iload_n C (D 1 rfl) rfl ?_
  refine j_cVp C B k_X12_320 (rc_obj C (lit (kd := 12) (n := 48) rfl) rfl rfl) (d_isEvent _ _ hL (vE V) hM.1 (by omega) _) rfl rfl rfl rfl ⟨Nat.le_refl _, Nat.le_refl _⟩ (D 2 rfl) ?_
  refine j_if_eq C  29 (D 3 rfl) (by decide) (fun h5 => ?_) (fun h5 => ?_)
  · refine j_bipush C (v := (-2)) (D 15 rfl) rfl ?_
    exact j_iret C P rfl (D 16 rfl) ⟨Nat.le_refl _, Nat.le_refl _⟩ (qm0 (a_worst_f (fun z => b2_eq h5 z.1)).symm)
  · refine j_iload_n C (D 4 rfl) rfl ?_
    refine j_i2l C (D 5 rfl) ?_
    refine j_lconst C (v := 0) (D 6 rfl) rfl ?_
    refine j_ldc2_w C (v := 2000) (D 7 rfl) n_X12_342 ?_
    refine j_cSp C B k_X12_99 (d_in _ _ _ _ _ _) rfl rfl rfl rfl ⟨Nat.le_refl _, Nat.le_refl _⟩ (D 8 rfl) ?_
    refine j_if_eq C  29 (D 9 rfl) (by decide) (fun h17 => ?_) (fun h17 => ?_)
    · refine j_bipush C (v := (-2)) (D 15 rfl) rfl ?_
      exact j_iret C P rfl (D 16 rfl) ⟨Nat.le_refl _, Nat.le_refl _⟩ (qm0 (a_worst_f (fun z => b2_eq h17 ((wL (by decide) (by decide)).mpr z.2))).symm)
    · obtain ⟨e, hk, rfl⟩ := inR_n (b2_ne h5)
      have he10 : e < 10 := by omega
      have hme : mE I e = vev V e := hM.2.2.2.2.1 e hk
      have hWE : WE (mE I e) := by rw [hme]; exact hV.2.2.2.2.1 e hk
      refine j_aload_n C (D 10 rfl) rfl ?_
      refine j_iload_n C (D 11 rfl) rfl ?_
      refine j_iload_n C (D 12 rfl) rfl ?_
      refine j_cVp C B k_X12_359 (rc_obj C (lit (kd := 12) (n := 48) rfl) rfl rfl) (d_worstOf _ _ hL e he10 hWE _) rfl rfl rfl rfl ⟨Nat.le_refl _, Nat.le_refl _⟩ (D 13 rfl) ?_
      refine j_goto C 31 (D 14 rfl) (by decide) ?_
      exact j_iret C P rfl (D 16 rfl) ⟨Nat.le_refl _, Nat.le_refl _⟩ (qm0 (by rw [a_worst_t ⟨(b2_ne h5), ((wL (by decide) (by decide)).mp (b2_ne h17))⟩, tn_n (by omega), hme]))
def a_top (V : VT) (ld : Bool) (e : Int32) : Int32 := if inR (vE V) e then topS (vev V (tn e)) else -2
theorem a_top_t {V : VT} {ld : Bool} {e : Int32} (hX : inR (vE V) e) : a_top V ld e = topS (vev V (tn e)) := if_pos hX
theorem a_top_f {V : VT} {ld : Bool} {e : Int32} (hX : ¬ (inR (vE V) e)) : a_top V ld e = -2 := if_neg hX
set_option maxRecDepth 20000 in
theorem c_topQ (l : Launch) (G : GT) {c : Nat} (hc : isC c) {I : Nat → Nat → Int32} {L : Nat → Nat → Int64} {R : Nat → Nat → Option Nat} (hL : Lay R) (hr5 : R 0 5 = some c) {V : VT} (hV : WV V) (hT : CT I c V) (ld : Bool) (hld : I 0 6 = b2 (ld = true)) (e : Int32) : Mt l G mX11_top (4) 0 0 [.ref (ra G 0), .int e] (wd I L R) (qC (a_top V ld e) I R) := by
  refine mt_of (own := RX11) (by decide) rfl rfl (fun Z C P B => ?_)
  have D := @dc_of _ _ dX11_top
  have hE10 := hV.1
  have hA8 := hV.2.1
  refine j_aload_n C (D 0 rfl) rfl ?_
  refine j_iload_n C (D 1 rfl) rfl ?_
  refine j_cVp C B k_X11_120 (rc_obj C (lit (kd := 11) (n := 12) rfl) rfl rfl) (c_hasEvent _ _ hc hL hr5 hV hT ld hld _) rfl rfl rfl rfl ⟨Nat.le_refl _, Nat.le_refl _⟩ (D 2 rfl) ?_
  refine j_if_eq C  23 (D 3 rfl) (by decide) (fun h5 => ?_) (fun h5 => ?_)
  · refine j_bipush C (v := (-2)) (D 11 rfl) rfl ?_
    exact j_iret C P rfl (D 12 rfl) ⟨Nat.le_refl _, Nat.le_refl _⟩ (qc0 (a_top_f (fun z => b2_eq h5 z)).symm)
  · obtain ⟨e, hk, rfl⟩ := inR_n (b2_ne h5)
    have he10 : e < 10 := by omega
    refine j_aload_n C (D 4 rfl) rfl ?_
    refine j_getr C f_X11_37 (lit (kd := 11) (n := 12) rfl) rfl rfl hr5 (D 5 rfl) ?_
    refine j_getr C f_X11_124 (sC0 hc) rfl rfl (hL _ _ _ (rC0 hc)) (D 6 rfl) ?_
    refine j_iload_n C (D 7 rfl) rfl ?_
    refine j_aald C (kd := 1) (sC1 hc) rfl (ix_n he10 (by decide)) (hL _ _ _ (rCT hc he10)) (D 8 rfl) ?_
    refine j_cVp C B k_X11_165 (rc_obj C (sT0 (isT_of hc he10)) rfl rfl) (c_mostValue _ _ (isT_of hc he10) hL (hV.2.2.2.2.1 e hk) (hT.2.2.2.2.1 e hk)) rfl rfl rfl rfl ⟨Nat.le_refl _, Nat.le_refl _⟩ (D 9 rfl) ?_
    refine j_goto C 25 (D 10 rfl) (by decide) ?_
    exact j_iret C P rfl (D 12 rfl) ⟨Nat.le_refl _, Nat.le_refl _⟩ (qc0 (by rw [a_top_t (b2_ne h5), tn_n (by omega)]))
set_option maxRecDepth 20000 in
theorem d_topQ (l : Launch) (G : GT) {I : Nat → Nat → Int32} {L : Nat → Nat → Int64} {R : Nat → Nat → Option Nat} (hL : Lay R) {V : VT} (hV : WV V) (hM : MT I V) (ld : Bool) (hld : I 172 1 = b2 (ld = true)) (e : Int32) : Mt l G mX12_top (4) 0 0 [.ref (ra G 172), .int e] (wd I L R) (qM (a_top V ld e) I R) := by
  refine mt_of (own := RX12) (by decide) rfl rfl (fun Z C P B => ?_)
  have D := @dc_of _ _ dX12_top
  have hE10 := hV.1
  have hA8 := hV.2.1
  refine j_aload_n C (D 0 rfl) rfl ?_
  refine j_iload_n C (D 1 rfl) rfl ?_
  refine j_cVp C B k_X12_320 (rc_obj C (lit (kd := 12) (n := 48) rfl) rfl rfl) (d_isEvent _ _ hL (vE V) hM.1 (by omega) _) rfl rfl rfl rfl ⟨Nat.le_refl _, Nat.le_refl _⟩ (D 2 rfl) ?_
  refine j_if_eq C  16 (D 3 rfl) (by decide) (fun h5 => ?_) (fun h5 => ?_)
  · refine j_bipush C (v := (-2)) (D 8 rfl) rfl ?_
    exact j_iret C P rfl (D 9 rfl) ⟨Nat.le_refl _, Nat.le_refl _⟩ (qm0 (a_top_f (fun z => b2_eq h5 z)).symm)
  · obtain ⟨e, hk, rfl⟩ := inR_n (b2_ne h5)
    have he10 : e < 10 := by omega
    have hme : mE I e = vev V e := hM.2.2.2.2.1 e hk
    have hWE : WE (mE I e) := by rw [hme]; exact hV.2.2.2.2.1 e hk
    refine j_aload_n C (D 4 rfl) rfl ?_
    refine j_iload_n C (D 5 rfl) rfl ?_
    refine j_cVp C B k_X12_356 (rc_obj C (lit (kd := 12) (n := 48) rfl) rfl rfl) (d_topOf _ _ hL e he10 hWE) rfl rfl rfl rfl ⟨Nat.le_refl _, Nat.le_refl _⟩ (D 6 rfl) ?_
    refine j_goto C 18 (D 7 rfl) (by decide) ?_
    exact j_iret C P rfl (D 9 rfl) ⟨Nat.le_refl _, Nat.le_refl _⟩ (qm0 (by rw [a_top_t (b2_ne h5), tn_n (by omega), hme]))
def a_same (V : VT) (ld : Bool) (e m o : Int32) : Int32 := if inR (vE V) e ∧ inR (vE V) o ∧ wi 0 99999 m then wstS (vev V (tn o)) (pts (vev V (tn e)) m) else -2
theorem a_same_t {V : VT} {ld : Bool} {e m o : Int32} (hX : inR (vE V) e ∧ inR (vE V) o ∧ wi 0 99999 m) : a_same V ld e m o = wstS (vev V (tn o)) (pts (vev V (tn e)) m) := if_pos hX
theorem a_same_f {V : VT} {ld : Bool} {e m o : Int32} (hX : ¬ (inR (vE V) e ∧ inR (vE V) o ∧ wi 0 99999 m)) : a_same V ld e m o = -2 := if_neg hX
set_option maxRecDepth 20000 in
theorem c_sameQ (l : Launch) (G : GT) {c : Nat} (hc : isC c) {I : Nat → Nat → Int32} {L : Nat → Nat → Int64} {R : Nat → Nat → Option Nat} (hL : Lay R) (hr5 : R 0 5 = some c) {V : VT} (hV : WV V) (hT : CT I c V) (ld : Bool) (hld : I 0 6 = b2 (ld = true)) (e m o : Int32) : Mt l G mX11_same (5) 0 0 [.ref (ra G 0), .int e, .int m, .int o] (wd I L R) (qC (a_same V ld e m o) I R) := by
  refine mt_of (own := RX11) (by decide) rfl rfl (fun Z C P B => ?_)
  have D := @dc_of _ _ dX11_same
  have hE10 := hV.1
  have hA8 := hV.2.1
  refine j_aload_n C (D 0 rfl) rfl ?_
  refine j_iload_n C (D 1 rfl) rfl ?_
  refine j_cVp C B k_X11_120 (rc_obj C (lit (kd := 11) (n := 12) rfl) rfl rfl) (c_hasEvent _ _ hc hL hr5 hV hT ld hld _) rfl rfl rfl rfl ⟨Nat.le_refl _, Nat.le_refl _⟩ (D 2 rfl) ?_
  refine j_if_eq C  23 (D 3 rfl) (by decide) (fun h5 => ?_) (fun h5 => ?_)
  · refine j_bipush C (v := (-2)) (D 11 rfl) rfl ?_
    exact j_iret C P rfl (D 12 rfl) ⟨Nat.le_refl _, Nat.le_refl _⟩ (qc0 (a_same_f (fun z => b2_eq h5 z.1)).symm)
  · refine j_aload_n C (D 4 rfl) rfl ?_
    refine j_iload_n C (D 5 rfl) rfl ?_
    refine j_cVp C B k_X11_120 (rc_obj C (lit (kd := 11) (n := 12) rfl) rfl rfl) (c_hasEvent _ _ hc hL hr5 hV hT ld hld _) rfl rfl rfl rfl ⟨Nat.le_refl _, Nat.le_refl _⟩ (D 6 rfl) ?_
    refine j_if_eq C  23 (D 7 rfl) (by decide) (fun h13 => ?_) (fun h13 => ?_)
    · refine j_bipush C (v := (-2)) (D 11 rfl) rfl ?_
      exact j_iret C P rfl (D 12 rfl) ⟨Nat.le_refl _, Nat.le_refl _⟩ (qc0 (a_same_f (fun z => b2_eq h13 z.2.1)).symm)
    · refine j_iload_n C (D 8 rfl) rfl ?_
      refine j_cSp C B k_X11_151 (c_isMark _ _ _ _) rfl rfl rfl rfl ⟨Nat.le_refl _, Nat.le_refl _⟩ (D 9 rfl) ?_
      refine j_if_ne C  26 (D 10 rfl) (by decide) (fun h20 => ?_) (fun h20 => ?_)
      · obtain ⟨e, hk, rfl⟩ := inR_n (b2_ne h5)
        obtain ⟨o, hk2, rfl⟩ := inR_n (b2_ne h13)
        have he10 : e < 10 := by omega
        have ho10 : o < 10 := by omega
        refine j_aload_n C (D 13 rfl) rfl ?_
        refine j_getr C f_X11_37 (lit (kd := 11) (n := 12) rfl) rfl rfl hr5 (D 14 rfl) ?_
        refine j_getr C f_X11_124 (sC0 hc) rfl rfl (hL _ _ _ (rC0 hc)) (D 15 rfl) ?_
        refine j_iload_n C (D 16 rfl) rfl ?_
        refine j_aald C (kd := 1) (sC1 hc) rfl (ix_n ho10 (by decide)) (hL _ _ _ (rCT hc ho10)) (D 17 rfl) ?_
        refine j_aload_n C (D 18 rfl) rfl ?_
        refine j_getr C f_X11_37 (lit (kd := 11) (n := 12) rfl) rfl rfl hr5 (D 19 rfl) ?_
        refine j_getr C f_X11_124 (sC0 hc) rfl rfl (hL _ _ _ (rC0 hc)) (D 20 rfl) ?_
        refine j_iload_n C (D 21 rfl) rfl ?_
        refine j_aald C (kd := 1) (sC1 hc) rfl (ix_n he10 (by decide)) (hL _ _ _ (rCT hc he10)) (D 22 rfl) ?_
        refine j_iload_n C (D 23 rfl) rfl ?_
        refine j_cVp C B k_X11_154 (rc_obj C (sT0 (isT_of hc he10)) rfl rfl) (c_valueOf _ _ (isT_of hc he10) hL (hV.2.2.2.2.1 e hk) (hT.2.2.2.2.1 e hk) _ (mk_ok ((wC (by decide) (by decide)).mp (b2_ne h20)))) rfl rfl rfl rfl ⟨Nat.le_refl _, Nat.le_refl _⟩ (D 24 rfl) ?_
        refine j_cVp C B k_X11_162 (rc_obj C (sT0 (isT_of hc ho10)) rfl rfl) (c_worstFor _ _ (isT_of hc ho10) hL (hV.2.2.2.2.1 o hk2) (hT.2.2.2.2.1 o hk2) _) rfl rfl rfl rfl ⟨Nat.le_refl _, Nat.le_refl _⟩ (D 25 rfl) ?_
        exact j_iret C P rfl (D 26 rfl) ⟨Nat.le_refl _, Nat.le_refl _⟩ (qc0 (by rw [a_same_t ⟨(b2_ne h5), (b2_ne h13), ((wC (by decide) (by decide)).mp (b2_ne h20))⟩, tn_n (by omega), tn_n (by omega)]))
      · refine j_bipush C (v := (-2)) (D 11 rfl) rfl ?_
        exact j_iret C P rfl (D 12 rfl) ⟨Nat.le_refl _, Nat.le_refl _⟩ (qc0 (a_same_f (fun z => b2_eq h20 ((wC (by decide) (by decide)).mpr z.2.2))).symm)
set_option maxRecDepth 20000 in
theorem d_sameQ (l : Launch) (G : GT) {I : Nat → Nat → Int32} {L : Nat → Nat → Int64} {R : Nat → Nat → Option Nat} (hL : Lay R) {V : VT} (hV : WV V) (hM : MT I V) (ld : Bool) (hld : I 172 1 = b2 (ld = true)) (e m o : Int32) : Mt l G mX12_same (5) 0 0 [.ref (ra G 172), .int e, .int m, .int o] (wd I L R) (qM (a_same V ld e m o) I R) := by
  refine mt_of (own := RX12) (by decide) rfl rfl (fun Z C P B => ?_)
  have D := @dc_of _ _ dX12_same
  have hE10 := hV.1
  have hA8 := hV.2.1
  refine j_aload_n C (D 0 rfl) rfl ?_
  refine j_iload_n C (D 1 rfl) rfl ?_
  refine j_cVp C B k_X12_320 (rc_obj C (lit (kd := 12) (n := 48) rfl) rfl rfl) (d_isEvent _ _ hL (vE V) hM.1 (by omega) _) rfl rfl rfl rfl ⟨Nat.le_refl _, Nat.le_refl _⟩ (D 2 rfl) ?_
  refine j_if_eq C  37 (D 3 rfl) (by decide) (fun h5 => ?_) (fun h5 => ?_)
  · refine j_bipush C (v := (-2)) (D 19 rfl) rfl ?_
    exact j_iret C P rfl (D 20 rfl) ⟨Nat.le_refl _, Nat.le_refl _⟩ (qm0 (a_same_f (fun z => b2_eq h5 z.1)).symm)
  · refine j_iload_n C (D 4 rfl) rfl ?_
    refine j_cSp C B k_X12_347 (d_isMark _ _ _ _) rfl rfl rfl rfl ⟨Nat.le_refl _, Nat.le_refl _⟩ (D 5 rfl) ?_
    refine j_if_eq C  37 (D 6 rfl) (by decide) (fun h12 => ?_) (fun h12 => ?_)
    · refine j_bipush C (v := (-2)) (D 19 rfl) rfl ?_
      exact j_iret C P rfl (D 20 rfl) ⟨Nat.le_refl _, Nat.le_refl _⟩ (qm0 (a_same_f (fun z => b2_eq h12 ((wC (by decide) (by decide)).mpr z.2.2))).symm)
    · refine j_aload_n C (D 7 rfl) rfl ?_
      refine j_iload_n C (D 8 rfl) rfl ?_
      refine j_cVp C B k_X12_320 (rc_obj C (lit (kd := 12) (n := 48) rfl) rfl rfl) (d_isEvent _ _ hL (vE V) hM.1 (by omega) _) rfl rfl rfl rfl ⟨Nat.le_refl _, Nat.le_refl _⟩ (D 9 rfl) ?_
      refine j_if_eq C  37 (D 10 rfl) (by decide) (fun h20 => ?_) (fun h20 => ?_)
      · refine j_bipush C (v := (-2)) (D 19 rfl) rfl ?_
        exact j_iret C P rfl (D 20 rfl) ⟨Nat.le_refl _, Nat.le_refl _⟩ (qm0 (a_same_f (fun z => b2_eq h20 z.2.1)).symm)
      · obtain ⟨e, hk, rfl⟩ := inR_n (b2_ne h5)
        obtain ⟨o, hk2, rfl⟩ := inR_n (b2_ne h20)
        have he10 : e < 10 := by omega
        have ho10 : o < 10 := by omega
        have hme : mE I e = vev V e := hM.2.2.2.2.1 e hk
        have hWE : WE (mE I e) := by rw [hme]; exact hV.2.2.2.2.1 e hk
        have hmo : mE I o = vev V o := hM.2.2.2.2.1 o hk2
        have hWO : WE (mE I o) := by rw [hmo]; exact hV.2.2.2.2.1 o hk2
        refine j_aload_n C (D 11 rfl) rfl ?_
        refine j_iload_n C (D 12 rfl) rfl ?_
        refine j_aload_n C (D 13 rfl) rfl ?_
        refine j_iload_n C (D 14 rfl) rfl ?_
        refine j_iload_n C (D 15 rfl) rfl ?_
        refine j_cVp C B k_X12_350 (rc_obj C (lit (kd := 12) (n := 48) rfl) rfl rfl) (d_pointsOf _ _ hL e he10 hWE _ (mk_ok ((wC (by decide) (by decide)).mp (b2_ne h12)))) rfl rfl rfl rfl ⟨Nat.le_refl _, Nat.le_refl _⟩ (D 16 rfl) ?_
        refine j_cVp C B k_X12_359 (rc_obj C (lit (kd := 12) (n := 48) rfl) rfl rfl) (d_worstOf _ _ hL o ho10 hWO _) rfl rfl rfl rfl ⟨Nat.le_refl _, Nat.le_refl _⟩ (D 17 rfl) ?_
        refine j_goto C 39 (D 18 rfl) (by decide) ?_
        exact j_iret C P rfl (D 20 rfl) ⟨Nat.le_refl _, Nat.le_refl _⟩ (qm0 (by rw [a_same_t ⟨(b2_ne h5), (b2_ne h20), ((wC (by decide) (by decide)).mp (b2_ne h12))⟩, tn_n (by omega), tn_n (by omega), hme, hmo]))
def a_mark (V : VT) (ld : Bool) (a e : Int32) : Int32 := if (inR (vA V) a ∧ inR (vE V) e) then vmk V (tn a) (tn e) else -2
theorem a_mark_t {V : VT} {ld : Bool} {a e : Int32} (hX : (inR (vA V) a ∧ inR (vE V) e)) : a_mark V ld a e = vmk V (tn a) (tn e) := if_pos hX
theorem a_mark_f {V : VT} {ld : Bool} {a e : Int32} (hX : ¬ ((inR (vA V) a ∧ inR (vE V) e))) : a_mark V ld a e = -2 := if_neg hX
set_option maxRecDepth 20000 in
theorem c_markQ (l : Launch) (G : GT) {c : Nat} (hc : isC c) {I : Nat → Nat → Int32} {L : Nat → Nat → Int64} {R : Nat → Nat → Option Nat} (hL : Lay R) (hr5 : R 0 5 = some c) {V : VT} (hV : WV V) (hT : CT I c V) (ld : Bool) (hld : I 0 6 = b2 (ld = true)) (a e : Int32) : Mt l G mX11_mark (2) 0 0 [.ref (ra G 0), .int a, .int e] (wd I L R) (qC (a_mark V ld a e) I R) := by
  refine mt_of (own := RX11) (by decide) rfl rfl (fun Z C P B => ?_)
  have D := @dc_of _ _ dX11_mark
  have hE10 := hV.1
  have hA8 := hV.2.1
  refine j_aload_n C (D 0 rfl) rfl ?_
  refine j_iload_n C (D 1 rfl) rfl ?_
  refine j_iload_n C (D 2 rfl) rfl ?_
  refine j_cVp C B k_X11_174 (rc_obj C (lit (kd := 11) (n := 12) rfl) rfl rfl) (c_hasCell _ _ hc hL hr5 hV hT ld hld _ _) rfl rfl rfl rfl ⟨Nat.le_refl _, Nat.le_refl _⟩ (D 3 rfl) ?_
  refine j_if_eq C  21 (D 4 rfl) (by decide) (fun h6 => ?_) (fun h6 => ?_)
  · refine j_bipush C (v := (-2)) (D 11 rfl) rfl ?_
    exact j_iret C P rfl (D 12 rfl) ⟨Nat.le_refl _, Nat.le_refl _⟩ (qc0 (a_mark_f (fun z => b2_eq h6 z)).symm)
  · obtain ⟨⟨a, ha, rfl⟩, ⟨e, he, rfl⟩⟩ := And.intro (inR_n (b2_ne h6).1) (inR_n (b2_ne h6).2)
    have he10 : e < 10 := by omega
    have ha8 : a < 8 := by omega
    refine j_aload_n C (D 5 rfl) rfl ?_
    refine j_getr C f_X11_37 (lit (kd := 11) (n := 12) rfl) rfl rfl hr5 (D 6 rfl) ?_
    refine j_iload_n C (D 7 rfl) rfl ?_
    refine j_iload_n C (D 8 rfl) rfl ?_
    refine j_cVp C B k_X11_178 (rc_obj C (sC0 hc) rfl rfl) (c_markOf _ _ hc hL hV hT a e ha he10) rfl rfl rfl rfl ⟨Nat.le_refl _, Nat.le_refl _⟩ (D 9 rfl) ?_
    refine j_goto C 23 (D 10 rfl) (by decide) ?_
    exact j_iret C P rfl (D 12 rfl) ⟨Nat.le_refl _, Nat.le_refl _⟩ (qc0 (by rw [a_mark_t (b2_ne h6), tn_n (by omega), tn_n (by omega)]))
set_option maxRecDepth 20000 in
theorem d_markQ (l : Launch) (G : GT) {I : Nat → Nat → Int32} {L : Nat → Nat → Int64} {R : Nat → Nat → Option Nat} (hL : Lay R) {V : VT} (hV : WV V) (hM : MT I V) (ld : Bool) (hld : I 172 1 = b2 (ld = true)) (a e : Int32) : Mt l G mX12_mark (3) 0 0 [.ref (ra G 172), .int a, .int e] (wd I L R) (qM (a_mark V ld a e) I R) := by
  refine mt_of (own := RX12) (by decide) rfl rfl (fun Z C P B => ?_)
  have D := @dc_of _ _ dX12_mark
  have hE10 := hV.1
  have hA8 := hV.2.1
  refine j_aload_n C (D 0 rfl) rfl ?_
  refine j_iload_n C (D 1 rfl) rfl ?_
  refine j_iload_n C (D 2 rfl) rfl ?_
  refine j_cVp C B k_X12_407 (rc_obj C (lit (kd := 12) (n := 48) rfl) rfl rfl) (d_isBoth _ _ hL (vA V) (vE V) hM.2.1 (by omega) hM.1 (by omega) _ _) rfl rfl rfl rfl ⟨Nat.le_refl _, Nat.le_refl _⟩ (D 3 rfl) ?_
  refine j_if_eq C  23 (D 4 rfl) (by decide) (fun h6 => ?_) (fun h6 => ?_)
  · refine j_bipush C (v := (-2)) (D 14 rfl) rfl ?_
    exact j_iret C P rfl (D 15 rfl) ⟨Nat.le_refl _, Nat.le_refl _⟩ (qm0 (a_mark_f (fun z => b2_eq h6 z)).symm)
  · obtain ⟨⟨a, ha, rfl⟩, ⟨e, he, rfl⟩⟩ := And.intro (inR_n (b2_ne h6).1) (inR_n (b2_ne h6).2)
    have he10 : e < 10 := by omega
    have ha8 : a < 8 := by omega
    refine j_aload_n C (D 5 rfl) rfl ?_
    refine j_getr C f_X12_22 (lit (kd := 12) (n := 48) rfl) rfl rfl (hL _ _ _ rfl) (D 6 rfl) ?_
    refine j_bipush C (v := nI 10) (D 7 rfl) rfl ?_
    refine j_iload_n C (D 8 rfl) rfl ?_
    refine j_imul C (D 9 rfl) ?_
    refine j_iload_n C (D 10 rfl) rfl ?_
    refine j_iadd C (D 11 rfl) ?_
    refine j_iald C (lit (kd := 20) (n := 80) rfl) (ix_cell' ha8 he10) (D 12 rfl) ?_
    rw [(hM.2.2.2.2.2.1 a e ha he10).1]
    refine j_goto C 25 (D 13 rfl) (by decide) ?_
    exact j_iret C P rfl (D 15 rfl) ⟨Nat.le_refl _, Nat.le_refl _⟩ (qm0 (by rw [a_mark_t (b2_ne h6), tn_n (by omega), tn_n (by omega)]))
def a_worth (V : VT) (ld : Bool) (a e : Int32) : Int32 := if (inR (vA V) a ∧ inR (vE V) e) then pts (vev V (tn e)) (vmk V (tn a) (tn e)) else -2
theorem a_worth_t {V : VT} {ld : Bool} {a e : Int32} (hX : (inR (vA V) a ∧ inR (vE V) e)) : a_worth V ld a e = pts (vev V (tn e)) (vmk V (tn a) (tn e)) := if_pos hX
theorem a_worth_f {V : VT} {ld : Bool} {a e : Int32} (hX : ¬ ((inR (vA V) a ∧ inR (vE V) e))) : a_worth V ld a e = -2 := if_neg hX
set_option maxRecDepth 20000 in
theorem c_worthQ (l : Launch) (G : GT) {c : Nat} (hc : isC c) {I : Nat → Nat → Int32} {L : Nat → Nat → Int64} {R : Nat → Nat → Option Nat} (hL : Lay R) (hr5 : R 0 5 = some c) {V : VT} (hV : WV V) (hT : CT I c V) (ld : Bool) (hld : I 0 6 = b2 (ld = true)) (a e : Int32) : Mt l G mX11_worth (4) 0 0 [.ref (ra G 0), .int a, .int e] (wd I L R) (qC (a_worth V ld a e) I R) := by
  refine mt_of (own := RX11) (by decide) rfl rfl (fun Z C P B => ?_)
  have D := @dc_of _ _ dX11_worth
  have hE10 := hV.1
  have hA8 := hV.2.1
  refine j_aload_n C (D 0 rfl) rfl ?_
  refine j_iload_n C (D 1 rfl) rfl ?_
  refine j_iload_n C (D 2 rfl) rfl ?_
  refine j_cVp C B k_X11_174 (rc_obj C (lit (kd := 11) (n := 12) rfl) rfl rfl) (c_hasCell _ _ hc hL hr5 hV hT ld hld _ _) rfl rfl rfl rfl ⟨Nat.le_refl _, Nat.le_refl _⟩ (D 3 rfl) ?_
  refine j_if_eq C  21 (D 4 rfl) (by decide) (fun h6 => ?_) (fun h6 => ?_)
  · refine j_bipush C (v := (-2)) (D 11 rfl) rfl ?_
    exact j_iret C P rfl (D 12 rfl) ⟨Nat.le_refl _, Nat.le_refl _⟩ (qc0 (a_worth_f (fun z => b2_eq h6 z)).symm)
  · obtain ⟨⟨a, ha, rfl⟩, ⟨e, he, rfl⟩⟩ := And.intro (inR_n (b2_ne h6).1) (inR_n (b2_ne h6).2)
    have he10 : e < 10 := by omega
    have ha8 : a < 8 := by omega
    refine j_aload_n C (D 5 rfl) rfl ?_
    refine j_getr C f_X11_37 (lit (kd := 11) (n := 12) rfl) rfl rfl hr5 (D 6 rfl) ?_
    refine j_iload_n C (D 7 rfl) rfl ?_
    refine j_iload_n C (D 8 rfl) rfl ?_
    refine j_cVp C B k_X11_182 (rc_obj C (sC0 hc) rfl rfl) (c_cvalueOf _ _ hc hL hV hT a e ha he) rfl rfl rfl rfl ⟨Nat.le_refl _, Nat.le_refl _⟩ (D 9 rfl) ?_
    refine j_goto C 23 (D 10 rfl) (by decide) ?_
    exact j_iret C P rfl (D 12 rfl) ⟨Nat.le_refl _, Nat.le_refl _⟩ (qc0 (by rw [a_worth_t (b2_ne h6), tn_n (by omega), tn_n (by omega)]))
set_option maxRecDepth 20000 in
theorem d_worthQ (l : Launch) (G : GT) {I : Nat → Nat → Int32} {L : Nat → Nat → Int64} {R : Nat → Nat → Option Nat} (hL : Lay R) {V : VT} (hV : WV V) (hM : MT I V) (ld : Bool) (hld : I 172 1 = b2 (ld = true)) (a e : Int32) : Mt l G mX12_worth (3) 0 0 [.ref (ra G 172), .int a, .int e] (wd I L R) (qM (a_worth V ld a e) I R) := by
  refine mt_of (own := RX12) (by decide) rfl rfl (fun Z C P B => ?_)
  have D := @dc_of _ _ dX12_worth
  have hE10 := hV.1
  have hA8 := hV.2.1
  refine j_aload_n C (D 0 rfl) rfl ?_
  refine j_iload_n C (D 1 rfl) rfl ?_
  refine j_iload_n C (D 2 rfl) rfl ?_
  refine j_cVp C B k_X12_407 (rc_obj C (lit (kd := 12) (n := 48) rfl) rfl rfl) (d_isBoth _ _ hL (vA V) (vE V) hM.2.1 (by omega) hM.1 (by omega) _ _) rfl rfl rfl rfl ⟨Nat.le_refl _, Nat.le_refl _⟩ (D 3 rfl) ?_
  refine j_if_eq C  28 (D 4 rfl) (by decide) (fun h6 => ?_) (fun h6 => ?_)
  · refine j_bipush C (v := (-2)) (D 17 rfl) rfl ?_
    exact j_iret C P rfl (D 18 rfl) ⟨Nat.le_refl _, Nat.le_refl _⟩ (qm0 (a_worth_f (fun z => b2_eq h6 z)).symm)
  · obtain ⟨⟨a, ha, rfl⟩, ⟨e, he, rfl⟩⟩ := And.intro (inR_n (b2_ne h6).1) (inR_n (b2_ne h6).2)
    have he10 : e < 10 := by omega
    have ha8 : a < 8 := by omega
    have hme : mE I e = vev V e := hM.2.2.2.2.1 e he
    have hWE : WE (mE I e) := by rw [hme]; exact hV.2.2.2.2.1 e he
    refine j_aload_n C (D 5 rfl) rfl ?_
    refine j_iload_n C (D 6 rfl) rfl ?_
    refine j_aload_n C (D 7 rfl) rfl ?_
    refine j_getr C f_X12_22 (lit (kd := 12) (n := 48) rfl) rfl rfl (hL _ _ _ rfl) (D 8 rfl) ?_
    refine j_bipush C (v := nI 10) (D 9 rfl) rfl ?_
    refine j_iload_n C (D 10 rfl) rfl ?_
    refine j_imul C (D 11 rfl) ?_
    refine j_iload_n C (D 12 rfl) rfl ?_
    refine j_iadd C (D 13 rfl) ?_
    refine j_iald C (lit (kd := 20) (n := 80) rfl) (ix_cell' ha8 he10) (D 14 rfl) ?_
    rw [(hM.2.2.2.2.2.1 a e ha he10).1]
    refine j_cVp C B k_X12_350 (rc_obj C (lit (kd := 12) (n := 48) rfl) rfl rfl) (d_pointsOf _ _ hL e he10 hWE _ (hV.2.2.2.2.2.1 a e ha he10).1) rfl rfl rfl rfl ⟨Nat.le_refl _, Nat.le_refl _⟩ (D 15 rfl) ?_
    refine j_goto C 30 (D 16 rfl) (by decide) ?_
    exact j_iret C P rfl (D 18 rfl) ⟨Nat.le_refl _, Nat.le_refl _⟩ (qm0 (by rw [a_worth_t (b2_ne h6), tn_n (by omega), tn_n (by omega), hme]))
def a_leads (V : VT) (ld : Bool) (e : Int32) : Int32 := if inR (vE V) e then kthS V (tn e) 0 else -2
theorem a_leads_t {V : VT} {ld : Bool} {e : Int32} (hX : inR (vE V) e) : a_leads V ld e = kthS V (tn e) 0 := if_pos hX
theorem a_leads_f {V : VT} {ld : Bool} {e : Int32} (hX : ¬ (inR (vE V) e)) : a_leads V ld e = -2 := if_neg hX
set_option maxRecDepth 20000 in
theorem c_leadsQ (l : Launch) (G : GT) {c : Nat} (hc : isC c) {I : Nat → Nat → Int32} {L : Nat → Nat → Int64} {R : Nat → Nat → Option Nat} (hL : Lay R) (hr5 : R 0 5 = some c) {V : VT} (hV : WV V) (hT : CT I c V) (ld : Bool) (hld : I 0 6 = b2 (ld = true)) (e : Int32) : Mt l G mX11_leads (4) 0 0 [.ref (ra G 0), .int e] (wd I L R) (qC (a_leads V ld e) I R) := by
  refine mt_of (own := RX11) (by decide) rfl rfl (fun Z C P B => ?_)
  have D := @dc_of _ _ dX11_leads
  have hE10 := hV.1
  have hA8 := hV.2.1
  refine j_aload_n C (D 0 rfl) rfl ?_
  refine j_iload_n C (D 1 rfl) rfl ?_
  refine j_cVp C B k_X11_120 (rc_obj C (lit (kd := 11) (n := 12) rfl) rfl rfl) (c_hasEvent _ _ hc hL hr5 hV hT ld hld _) rfl rfl rfl rfl ⟨Nat.le_refl _, Nat.le_refl _⟩ (D 2 rfl) ?_
  refine j_if_eq C  20 (D 3 rfl) (by decide) (fun h5 => ?_) (fun h5 => ?_)
  · refine j_bipush C (v := (-2)) (D 10 rfl) rfl ?_
    exact j_iret C P rfl (D 11 rfl) ⟨Nat.le_refl _, Nat.le_refl _⟩ (qc0 (a_leads_f (fun z => b2_eq h5 z)).symm)
  · obtain ⟨e, hk, rfl⟩ := inR_n (b2_ne h5)
    have he10 : e < 10 := by omega
    refine j_aload_n C (D 4 rfl) rfl ?_
    refine j_getr C f_X11_37 (lit (kd := 11) (n := 12) rfl) rfl rfl hr5 (D 5 rfl) ?_
    refine j_iload_n C (D 6 rfl) rfl ?_
    refine j_iconst C (v := nI 0) (D 7 rfl) rfl ?_
    refine j_cVp C B k_X11_233 (rc_obj C (sC0 hc) rfl rfl) (c_athleteByMark _ _ hc hL hV hT e _ hk) rfl rfl rfl rfl ⟨Nat.le_refl _, Nat.le_refl _⟩ (D 8 rfl) ?_
    refine j_goto C 22 (D 9 rfl) (by decide) ?_
    exact j_iret C P rfl (D 11 rfl) ⟨Nat.le_refl _, Nat.le_refl _⟩ (qc0 (by rw [a_leads_t (b2_ne h5), tn_n (by omega)]; rfl))
set_option maxRecDepth 20000 in
theorem d_leadsQ (l : Launch) (G : GT) {I : Nat → Nat → Int32} {L : Nat → Nat → Int64} {R : Nat → Nat → Option Nat} (hL : Lay R) {V : VT} (hV : WV V) (hM : MT I V) (ld : Bool) (hld : I 172 1 = b2 (ld = true)) (e : Int32) : Mt l G mX12_leads (4) 0 0 [.ref (ra G 172), .int e] (wd I L R) (qM (a_leads V ld e) I R) := by
  refine mt_of (own := RX12) (by decide) rfl rfl (fun Z C P B => ?_)
  have D := @dc_of _ _ dX12_leads
  have hE10 := hV.1
  have hA8 := hV.2.1
  refine j_aload_n C (D 0 rfl) rfl ?_
  refine j_iload_n C (D 1 rfl) rfl ?_
  refine j_cVp C B k_X12_320 (rc_obj C (lit (kd := 12) (n := 48) rfl) rfl rfl) (d_isEvent _ _ hL (vE V) hM.1 (by omega) _) rfl rfl rfl rfl ⟨Nat.le_refl _, Nat.le_refl _⟩ (D 2 rfl) ?_
  refine j_if_eq C  16 (D 3 rfl) (by decide) (fun h5 => ?_) (fun h5 => ?_)
  · refine j_bipush C (v := (-2)) (D 8 rfl) rfl ?_
    exact j_iret C P rfl (D 9 rfl) ⟨Nat.le_refl _, Nat.le_refl _⟩ (qm0 (a_leads_f (fun z => b2_eq h5 z)).symm)
  · obtain ⟨e, hk, rfl⟩ := inR_n (b2_ne h5)
    have he10 : e < 10 := by omega
    have hme : mE I e = vev V e := hM.2.2.2.2.1 e hk
    have hWE : WE (mE I e) := by rw [hme]; exact hV.2.2.2.2.1 e hk
    refine j_aload_n C (D 4 rfl) rfl ?_
    refine j_iload_n C (D 5 rfl) rfl ?_
    refine j_cVp C B k_X12_421 (rc_obj C (lit (kd := 12) (n := 48) rfl) rfl rfl) (d_leader _ _ hL hV hM e hk) rfl rfl rfl rfl ⟨Nat.le_refl _, Nat.le_refl _⟩ (D 6 rfl) ?_
    refine j_goto C 18 (D 7 rfl) (by decide) ?_
    exact j_iret C P rfl (D 9 rfl) ⟨Nat.le_refl _, Nat.le_refl _⟩ (qm0 (by rw [a_leads_t (b2_ne h5), tn_n (by omega)]))

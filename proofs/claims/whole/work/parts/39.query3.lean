def a_event (V : VT) (ld : Bool) (e w : Int32) : Int32 := if inR (vE V) e ∧ wi 0 5 w then vev V (tn e) (tn w) else -2
theorem a_event_t {V : VT} {ld : Bool} {e w : Int32} (hX : inR (vE V) e ∧ wi 0 5 w) : a_event V ld e w = vev V (tn e) (tn w) := if_pos hX
theorem a_event_f {V : VT} {ld : Bool} {e w : Int32} (hX : ¬ (inR (vE V) e ∧ wi 0 5 w)) : a_event V ld e w = -2 := if_neg hX
theorem tab4 {E : Nat → Int32} (h : WE E) (h3 : E 2 = 3) : E 4 = -1 := by
  rcases h.2.2.2 with h | h
  · rcases h.1 with q | q | q <;> (rw [q] at h3; exact absurd h3 (by decide))
  · exact h.2.1
set_option maxRecDepth 20000 in
theorem c_eventQ (l : Launch) (G : GT) {c : Nat} (hc : isC c) {I : Nat → Nat → Int32} {L : Nat → Nat → Int64} {R : Nat → Nat → Option Nat} (hL : Lay R) (hr5 : R 0 5 = some c) {V : VT} (hV : WV V) (hT : CT I c V) (ld : Bool) (hld : I 0 6 = b2 (ld = true)) (e w : Int32) : Mt l G mX11_event (5) 0 0 [.ref (ra G 0), .int e, .int w] (wd I L R) (qC (a_event V ld e w) I R) := by
  refine mt_of (own := RX11) (by decide) rfl rfl (fun Z C P B => ?_)
  have D := @dc_of _ _ dX11_event
  have hE10 := hV.1
  have hA8 := hV.2.1
  refine j_aload_n C (D 0 rfl) rfl ?_
  refine j_iload_n C (D 1 rfl) rfl ?_
  refine j_cVp C B k_X11_120 (rc_obj C (lit (kd := 11) (n := 12) rfl) rfl rfl) (c_hasEvent _ _ hc hL hr5 hV hT ld hld _) rfl rfl rfl rfl ⟨Nat.le_refl _, Nat.le_refl _⟩ (D 2 rfl) ?_
  refine j_if_ne C  11 (D 3 rfl) (by decide) (fun h5 => ?_) (fun h5 => ?_)
  · obtain ⟨e, hk, rfl⟩ := inR_n (b2_ne h5)
    have he10 : e < 10 := by omega
    have htr := hT.2.2.2.2.1 e hk
    refine j_aload_n C (D 6 rfl) rfl ?_
    refine j_getr C f_X11_37 (lit (kd := 11) (n := 12) rfl) rfl rfl hr5 (D 7 rfl) ?_
    refine j_getr C f_X11_124 (sC0 hc) rfl rfl (hL _ _ _ (rC0 hc)) (D 8 rfl) ?_
    refine j_iload_n C (D 9 rfl) rfl ?_
    refine j_aald C (kd := 1) (sC1 hc) rfl (ix_n he10 (by decide)) (hL _ _ _ (rCT hc he10)) (D 10 rfl) ?_
    refine j_astore_n C (D 11 rfl) rfl ?_
    refine j_iload_n C (D 12 rfl) rfl ?_
    rcases sw_n 5 w with ⟨k9, hk9, rfl⟩ | hout
    · rcases (show k9 = 0 ∨ k9 = 1 ∨ k9 = 2 ∨ k9 = 3 ∨ k9 = 4 ∨ k9 = 5 by omega) with rfl | rfl | rfl | rfl | rfl | rfl
      · refine j_tableIn C 60 (D 13 rfl) (by decide) (by decide) rfl (by decide) ?_
        refine j_aload_n C (D 14 rfl) rfl ?_
        refine j_geti C f_X11_128 (sT0 (isT_of hc he10)) rfl rfl (D 15 rfl) ?_
        rw [htr.1]
        refine j_if_eq C  71 (D 16 rfl) (by decide) (fun h64 => ?_) (fun h64 => ?_)
        · refine j_iconst C (v := nI 0) (D 19 rfl) rfl ?_
          exact j_iret C P rfl (D 20 rfl) ⟨Nat.le_refl _, Nat.le_refl _⟩ (qc0 (by rw [a_event_t ⟨b2_ne h5, by decide, by decide⟩, tn_n (by omega), tn_n (by omega)]; exact h64.symm))
        · refine j_iconst C (v := nI 1) (D 17 rfl) rfl ?_
          refine j_goto C 72 (D 18 rfl) (by decide) ?_
          exact j_iret C P rfl (D 20 rfl) ⟨Nat.le_refl _, Nat.le_refl _⟩ (qc0 (by rw [a_event_t ⟨b2_ne h5, by decide, by decide⟩, tn_n (by omega), tn_n (by omega)]; exact (we0 (hV.2.2.2.2.1 e hk) h64).symm))
      · refine j_tableIn C 73 (D 13 rfl) (by decide) (by decide) rfl (by decide) ?_
        refine j_aload_n C (D 21 rfl) rfl ?_
        refine j_geti C f_X11_133 (sT0 (isT_of hc he10)) rfl rfl (D 22 rfl) ?_
        exact j_iret C P rfl (D 23 rfl) ⟨Nat.le_refl _, Nat.le_refl _⟩ (qc0 (by rw [a_event_t ⟨b2_ne h5, by decide, by decide⟩, tn_n (by omega), tn_n (by omega)]; exact htr.2.1))
      · refine j_tableIn C 78 (D 13 rfl) (by decide) (by decide) rfl (by decide) ?_
        refine j_aload_n C (D 24 rfl) rfl ?_
        refine j_geti C f_X11_136 (sT0 (isT_of hc he10)) rfl rfl (D 25 rfl) ?_
        exact j_iret C P rfl (D 26 rfl) ⟨Nat.le_refl _, Nat.le_refl _⟩ (qc0 (by rw [a_event_t ⟨b2_ne h5, by decide, by decide⟩, tn_n (by omega), tn_n (by omega)]; exact htr.2.2.1))
      · refine j_tableIn C 83 (D 13 rfl) (by decide) (by decide) rfl (by decide) ?_
        refine j_aload_n C (D 27 rfl) rfl ?_
        refine j_geti C f_X11_136 (sT0 (isT_of hc he10)) rfl rfl (D 28 rfl) ?_
        refine j_iconst C (v := nI 3) (D 29 rfl) rfl ?_
        rw [htr.2.2.1]
        refine j_icmp_ne C  98 (D 30 rfl) (by decide) (fun h88 => ?_) (fun h88 => ?_)
        · refine j_aload_n C (D 34 rfl) rfl ?_
          refine j_geti C f_X11_142 (sT0 (isT_of hc he10)) rfl rfl (D 35 rfl) ?_
          exact j_iret C P rfl (D 36 rfl) ⟨Nat.le_refl _, Nat.le_refl _⟩ (qc0 (by rw [a_event_t ⟨b2_ne h5, by decide, by decide⟩, tn_n (by omega), tn_n (by omega)]; exact (htr.2.2.2.2.2 h88).1))
        · refine j_aload_n C (D 31 rfl) rfl ?_
          refine j_geti C f_X11_139 (sT0 (isT_of hc he10)) rfl rfl (D 32 rfl) ?_
          refine j_goto C 102 (D 33 rfl) (by decide) ?_
          exact j_iret C P rfl (D 36 rfl) ⟨Nat.le_refl _, Nat.le_refl _⟩ (qc0 (by rw [a_event_t ⟨b2_ne h5, by decide, by decide⟩, tn_n (by omega), tn_n (by omega)]; exact (htr.2.2.2.2.1 h88).1))
      · refine j_tableIn C 103 (D 13 rfl) (by decide) (by decide) rfl (by decide) ?_
        refine j_aload_n C (D 37 rfl) rfl ?_
        refine j_geti C f_X11_136 (sT0 (isT_of hc he10)) rfl rfl (D 38 rfl) ?_
        refine j_iconst C (v := nI 3) (D 39 rfl) rfl ?_
        rw [htr.2.2.1]
        refine j_icmp_ne C  115 (D 40 rfl) (by decide) (fun h108 => ?_) (fun h108 => ?_)
        · refine j_aload_n C (D 43 rfl) rfl ?_
          refine j_geti C f_X11_145 (sT0 (isT_of hc he10)) rfl rfl (D 44 rfl) ?_
          exact j_iret C P rfl (D 45 rfl) ⟨Nat.le_refl _, Nat.le_refl _⟩ (qc0 (by rw [a_event_t ⟨b2_ne h5, by decide, by decide⟩, tn_n (by omega), tn_n (by omega)]; exact (htr.2.2.2.2.2 h108).2))
        · refine j_iconst C (v := (-1)) (D 41 rfl) rfl ?_
          refine j_goto C 119 (D 42 rfl) (by decide) ?_
          exact j_iret C P rfl (D 45 rfl) ⟨Nat.le_refl _, Nat.le_refl _⟩ (qc0 (by rw [a_event_t ⟨b2_ne h5, by decide, by decide⟩, tn_n (by omega), tn_n (by omega)]; exact (tab4 (hV.2.2.2.2.1 e hk) h108).symm))
      · refine j_tableIn C 120 (D 13 rfl) (by decide) (by decide) rfl (by decide) ?_
        refine j_aload_n C (D 46 rfl) rfl ?_
        refine j_geti C f_X11_148 (sT0 (isT_of hc he10)) rfl rfl (D 47 rfl) ?_
        exact j_iret C P rfl (D 48 rfl) ⟨Nat.le_refl _, Nat.le_refl _⟩ (qc0 (by rw [a_event_t ⟨b2_ne h5, by decide, by decide⟩, tn_n (by omega), tn_n (by omega)]; exact htr.2.2.2.1))
    · refine j_tableOut C 125 (D 13 rfl) hout (by decide) ?_
      refine j_bipush C (v := (-2)) (D 49 rfl) rfl ?_
      exact j_iret C P rfl (D 50 rfl) ⟨Nat.le_refl _, Nat.le_refl _⟩ (qc0 (a_event_f (fun z => by have := z.2.1; have := z.2.2; omega)).symm)
  · refine j_bipush C (v := (-2)) (D 4 rfl) rfl ?_
    exact j_iret C P rfl (D 5 rfl) ⟨Nat.le_refl _, Nat.le_refl _⟩ (qc0 (a_event_f (fun z => b2_eq h5 z.1)).symm)
set_option maxRecDepth 20000 in
theorem d_eventQ (l : Launch) (G : GT) {I : Nat → Nat → Int32} {L : Nat → Nat → Int64} {R : Nat → Nat → Option Nat} (hL : Lay R) {V : VT} (hV : WV V) (hM : MT I V) (ld : Bool) (hld : I 172 1 = b2 (ld = true)) (e w : Int32) : Mt l G mX12_event (5) 0 0 [.ref (ra G 172), .int e, .int w] (wd I L R) (qM (a_event V ld e w) I R) := by
  refine mt_of (own := RX12) (by decide) rfl rfl (fun Z C P B => ?_)
  have D := @dc_of _ _ dX12_event
  have hE10 := hV.1
  have hA8 := hV.2.1
  refine j_aload_n C (D 0 rfl) rfl ?_
  refine j_iload_n C (D 1 rfl) rfl ?_
  refine j_cVp C B k_X12_320 (rc_obj C (lit (kd := 12) (n := 48) rfl) rfl rfl) (d_isEvent _ _ hL (vE V) hM.1 (by omega) _) rfl rfl rfl rfl ⟨Nat.le_refl _, Nat.le_refl _⟩ (D 2 rfl) ?_
  refine j_if_eq C  29 (D 3 rfl) (by decide) (fun h5 => ?_) (fun h5 => ?_)
  · refine j_bipush C (v := (-2)) (D 15 rfl) rfl ?_
    exact j_iret C P rfl (D 16 rfl) ⟨Nat.le_refl _, Nat.le_refl _⟩ (qm0 (a_event_f (fun z => b2_eq h5 z.1)).symm)
  · refine j_iload_n C (D 4 rfl) rfl ?_
    refine j_i2l C (D 5 rfl) ?_
    refine j_lconst C (v := 0) (D 6 rfl) rfl ?_
    refine j_ldc2_w C (v := 5) (D 7 rfl) n_X12_323 ?_
    refine j_cSp C B k_X12_99 (d_in _ _ _ _ _ _) rfl rfl rfl rfl ⟨Nat.le_refl _, Nat.le_refl _⟩ (D 8 rfl) ?_
    refine j_if_eq C  29 (D 9 rfl) (by decide) (fun h17 => ?_) (fun h17 => ?_)
    · refine j_bipush C (v := (-2)) (D 15 rfl) rfl ?_
      exact j_iret C P rfl (D 16 rfl) ⟨Nat.le_refl _, Nat.le_refl _⟩ (qm0 (a_event_f (fun z => b2_eq h17 ((wL (by decide) (by decide)).mpr z.2))).symm)
    · obtain ⟨e, hk, rfl⟩ := inR_n (b2_ne h5)
      have he10 : e < 10 := by omega
      have hme : mE I e = vev V e := hM.2.2.2.2.1 e hk
      have hWE : WE (mE I e) := by rw [hme]; exact hV.2.2.2.2.1 e hk
      obtain ⟨w, _, hw5, rfl⟩ := wi_n (a := 0) (b := 5) ((wL (by decide) (by decide)).mp (b2_ne h17))
      refine j_aload_n C (D 10 rfl) rfl ?_
      refine j_iload_n C (D 11 rfl) rfl ?_
      refine j_iload_n C (D 12 rfl) rfl ?_
      refine j_cVp C B k_X12_325 (rc_obj C (lit (kd := 12) (n := 48) rfl) rfl rfl) (d_ofEvent _ _ hL e w he10 (by omega)) rfl rfl rfl rfl ⟨Nat.le_refl _, Nat.le_refl _⟩ (D 13 rfl) ?_
      refine j_goto C 31 (D 14 rfl) (by decide) ?_
      exact j_iret C P rfl (D 16 rfl) ⟨Nat.le_refl _, Nat.le_refl _⟩ (qm0 (by rw [a_event_t ⟨(b2_ne h5), ((wL (by decide) (by decide)).mp (b2_ne h17))⟩, tn_n (by omega), tn_n (by omega), hme]))
def a_trained (V : VT) (ld : Bool) (a e h : Int32) : Int32 := if (inR (vA V) a ∧ inR (vE V) e) ∧ wi 0 999 h then trS (vev V (tn e)) (vmk V (tn a) (tn e)) (vgo V (tn a) (tn e)) (vgi V (tn a) (tn e)) (tn h) else -2
theorem a_trained_t {V : VT} {ld : Bool} {a e h : Int32} (hX : (inR (vA V) a ∧ inR (vE V) e) ∧ wi 0 999 h) : a_trained V ld a e h = trS (vev V (tn e)) (vmk V (tn a) (tn e)) (vgo V (tn a) (tn e)) (vgi V (tn a) (tn e)) (tn h) := if_pos hX
theorem a_trained_f {V : VT} {ld : Bool} {a e h : Int32} (hX : ¬ ((inR (vA V) a ∧ inR (vE V) e) ∧ wi 0 999 h)) : a_trained V ld a e h = -2 := if_neg hX
set_option maxRecDepth 20000 in
theorem c_trainedQ (l : Launch) (G : GT) {c : Nat} (hc : isC c) {I : Nat → Nat → Int32} {L : Nat → Nat → Int64} {R : Nat → Nat → Option Nat} (hL : Lay R) (hr5 : R 0 5 = some c) {V : VT} (hV : WV V) (hT : CT I c V) (ld : Bool) (hld : I 0 6 = b2 (ld = true)) (a e h : Int32) : Mt l G mX11_trained (3) 0 0 [.ref (ra G 0), .int a, .int e, .int h] (wd I L R) (qC (a_trained V ld a e h) I R) := by
  refine mt_of (own := RX11) (by decide) rfl rfl (fun Z C P B => ?_)
  have D := @dc_of _ _ dX11_trained
  have hE10 := hV.1
  have hA8 := hV.2.1
  refine j_aload_n C (D 0 rfl) rfl ?_
  refine j_iload_n C (D 1 rfl) rfl ?_
  refine j_iload_n C (D 2 rfl) rfl ?_
  refine j_cVp C B k_X11_174 (rc_obj C (lit (kd := 11) (n := 12) rfl) rfl rfl) (c_hasCell _ _ hc hL hr5 hV hT ld hld _ _) rfl rfl rfl rfl ⟨Nat.le_refl _, Nat.le_refl _⟩ (D 3 rfl) ?_
  refine j_if_eq C  20 (D 4 rfl) (by decide) (fun h6 => ?_) (fun h6 => ?_)
  · refine j_bipush C (v := (-2)) (D 10 rfl) rfl ?_
    exact j_iret C P rfl (D 11 rfl) ⟨Nat.le_refl _, Nat.le_refl _⟩ (qc0 (a_trained_f (fun z => b2_eq h6 z.1)).symm)
  · refine j_iload_n C (D 5 rfl) rfl ?_
    refine j_iconst C (v := nI 0) (D 6 rfl) rfl ?_
    refine j_sipush C (v := nI 999) (D 7 rfl) rfl ?_
    refine j_cSp C B k_X11_158 (c_isWithin _ _ _ _ _ _) rfl rfl rfl rfl ⟨Nat.le_refl _, Nat.le_refl _⟩ (D 8 rfl) ?_
    refine j_if_ne C  23 (D 9 rfl) (by decide) (fun h17 => ?_) (fun h17 => ?_)
    · obtain ⟨⟨a, ha, rfl⟩, ⟨e, he, rfl⟩⟩ := And.intro (inR_n (b2_ne h6).1) (inR_n (b2_ne h6).2)
      have he10 : e < 10 := by omega
      have ha8 : a < 8 := by omega
      obtain ⟨h, hlo, hh, rfl⟩ := wi_n (a := 0) (b := 999) ((wC (by decide) (by decide)).mp (b2_ne h17))
      refine j_aload_n C (D 12 rfl) rfl ?_
      refine j_getr C f_X11_37 (lit (kd := 11) (n := 12) rfl) rfl rfl hr5 (D 13 rfl) ?_
      refine j_iload_n C (D 14 rfl) rfl ?_
      refine j_iload_n C (D 15 rfl) rfl ?_
      refine j_iload_n C (D 16 rfl) rfl ?_
      refine j_cVp C B k_X11_258 (rc_obj C (sC0 hc) rfl rfl) (c_markAfter _ _ hc hL hV hT a e h ha he hh) rfl rfl rfl rfl ⟨Nat.le_refl _, Nat.le_refl _⟩ (D 17 rfl) ?_
      exact j_iret C P rfl (D 18 rfl) ⟨Nat.le_refl _, Nat.le_refl _⟩ (qc0 (by rw [a_trained_t ⟨(b2_ne h6), ((wC (by decide) (by decide)).mp (b2_ne h17))⟩, tn_n (by omega), tn_n (by omega), tn_n (by omega)]))
    · refine j_bipush C (v := (-2)) (D 10 rfl) rfl ?_
      exact j_iret C P rfl (D 11 rfl) ⟨Nat.le_refl _, Nat.le_refl _⟩ (qc0 (a_trained_f (fun z => b2_eq h17 ((wC (by decide) (by decide)).mpr z.2))).symm)
set_option maxRecDepth 20000 in
theorem d_trainedQ (l : Launch) (G : GT) {I : Nat → Nat → Int32} {L : Nat → Nat → Int64} {R : Nat → Nat → Option Nat} (hL : Lay R) {V : VT} (hV : WV V) (hM : MT I V) (ld : Bool) (hld : I 172 1 = b2 (ld = true)) (a e h : Int32) : Mt l G mX12_trained (3) 0 0 [.ref (ra G 172), .int a, .int e, .int h] (wd I L R) (qM (a_trained V ld a e h) I R) := by
  refine mt_of (own := RX12) (by decide) rfl rfl (fun Z C P B => ?_)
  have D := @dc_of _ _ dX12_trained
  have hE10 := hV.1
  have hA8 := hV.2.1
  refine j_aload_n C (D 0 rfl) rfl ?_
  refine j_iload_n C (D 1 rfl) rfl ?_
  refine j_iload_n C (D 2 rfl) rfl ?_
  refine j_cVp C B k_X12_407 (rc_obj C (lit (kd := 12) (n := 48) rfl) rfl rfl) (d_isBoth _ _ hL (vA V) (vE V) hM.2.1 (by omega) hM.1 (by omega) _ _) rfl rfl rfl rfl ⟨Nat.le_refl _, Nat.le_refl _⟩ (D 3 rfl) ?_
  refine j_if_eq C  31 (D 4 rfl) (by decide) (fun h6 => ?_) (fun h6 => ?_)
  · refine j_bipush C (v := (-2)) (D 17 rfl) rfl ?_
    exact j_iret C P rfl (D 18 rfl) ⟨Nat.le_refl _, Nat.le_refl _⟩ (qm0 (a_trained_f (fun z => b2_eq h6 z.1)).symm)
  · refine j_iload_n C (D 5 rfl) rfl ?_
    refine j_i2l C (D 6 rfl) ?_
    refine j_lconst C (v := 0) (D 7 rfl) rfl ?_
    refine j_ldc2_w C (v := 999) (D 8 rfl) n_X12_428 ?_
    refine j_cSp C B k_X12_99 (d_in _ _ _ _ _ _) rfl rfl rfl rfl ⟨Nat.le_refl _, Nat.le_refl _⟩ (D 9 rfl) ?_
    refine j_if_eq C  31 (D 10 rfl) (by decide) (fun h18 => ?_) (fun h18 => ?_)
    · refine j_bipush C (v := (-2)) (D 17 rfl) rfl ?_
      exact j_iret C P rfl (D 18 rfl) ⟨Nat.le_refl _, Nat.le_refl _⟩ (qm0 (a_trained_f (fun z => b2_eq h18 ((wL (by decide) (by decide)).mpr z.2))).symm)
    · obtain ⟨⟨a, ha, rfl⟩, ⟨e, he, rfl⟩⟩ := And.intro (inR_n (b2_ne h6).1) (inR_n (b2_ne h6).2)
      have he10 : e < 10 := by omega
      have ha8 : a < 8 := by omega
      obtain ⟨h, hlo, hh, rfl⟩ := wi_n (a := 0) (b := 999) ((wL (by decide) (by decide)).mp (b2_ne h18))
      refine j_aload_n C (D 11 rfl) rfl ?_
      refine j_iload_n C (D 12 rfl) rfl ?_
      refine j_iload_n C (D 13 rfl) rfl ?_
      refine j_iload_n C (D 14 rfl) rfl ?_
      refine j_cVp C B k_X12_430 (rc_obj C (lit (kd := 12) (n := 48) rfl) rfl rfl) (d_trainedOf _ _ hL hV hM a e h ha he hh) rfl rfl rfl rfl ⟨Nat.le_refl _, Nat.le_refl _⟩ (D 15 rfl) ?_
      refine j_goto C 33 (D 16 rfl) (by decide) ?_
      exact j_iret C P rfl (D 18 rfl) ⟨Nat.le_refl _, Nat.le_refl _⟩ (qm0 (by rw [a_trained_t ⟨(b2_ne h6), ((wL (by decide) (by decide)).mp (b2_ne h18))⟩, tn_n (by omega), tn_n (by omega), tn_n (by omega)]))
def a_gains (V : VT) (ld : Bool) (a e w : Int32) : Int32 := if (inR (vA V) a ∧ inR (vE V) e) ∧ wi 0 1 w then if w = 0 then vgo V (tn a) (tn e) else vgi V (tn a) (tn e) else -2
theorem a_gains_t {V : VT} {ld : Bool} {a e w : Int32} (hX : (inR (vA V) a ∧ inR (vE V) e) ∧ wi 0 1 w) : a_gains V ld a e w = if w = 0 then vgo V (tn a) (tn e) else vgi V (tn a) (tn e) := if_pos hX
theorem a_gains_f {V : VT} {ld : Bool} {a e w : Int32} (hX : ¬ ((inR (vA V) a ∧ inR (vE V) e) ∧ wi 0 1 w)) : a_gains V ld a e w = -2 := if_neg hX
set_option maxRecDepth 20000 in
theorem c_gainsQ (l : Launch) (G : GT) {c : Nat} (hc : isC c) {I : Nat → Nat → Int32} {L : Nat → Nat → Int64} {R : Nat → Nat → Option Nat} (hL : Lay R) (hr5 : R 0 5 = some c) {V : VT} (hV : WV V) (hT : CT I c V) (ld : Bool) (hld : I 0 6 = b2 (ld = true)) (a e w : Int32) : Mt l G mX11_gains (3) 0 0 [.ref (ra G 0), .int a, .int e, .int w] (wd I L R) (qC (a_gains V ld a e w) I R) := by
  refine mt_of (own := RX11) (by decide) rfl rfl (fun Z C P B => ?_)
  have D := @dc_of _ _ dX11_gains
  have hE10 := hV.1
  have hA8 := hV.2.1
  refine j_aload_n C (D 0 rfl) rfl ?_
  refine j_iload_n C (D 1 rfl) rfl ?_
  refine j_iload_n C (D 2 rfl) rfl ?_
  refine j_cVp C B k_X11_174 (rc_obj C (lit (kd := 11) (n := 12) rfl) rfl rfl) (c_hasCell _ _ hc hL hr5 hV hT ld hld _ _) rfl rfl rfl rfl ⟨Nat.le_refl _, Nat.le_refl _⟩ (D 3 rfl) ?_
  refine j_if_eq C  18 (D 4 rfl) (by decide) (fun h6 => ?_) (fun h6 => ?_)
  · refine j_bipush C (v := (-2)) (D 10 rfl) rfl ?_
    exact j_iret C P rfl (D 11 rfl) ⟨Nat.le_refl _, Nat.le_refl _⟩ (qc0 (a_gains_f (fun z => b2_eq h6 z.1)).symm)
  · refine j_iload_n C (D 5 rfl) rfl ?_
    refine j_iconst C (v := nI 0) (D 6 rfl) rfl ?_
    refine j_iconst C (v := nI 1) (D 7 rfl) rfl ?_
    refine j_cSp C B k_X11_158 (c_isWithin _ _ _ _ _ _) rfl rfl rfl rfl ⟨Nat.le_refl _, Nat.le_refl _⟩ (D 8 rfl) ?_
    refine j_if_ne C  21 (D 9 rfl) (by decide) (fun h15 => ?_) (fun h15 => ?_)
    · obtain ⟨⟨a, ha, rfl⟩, ⟨e, he, rfl⟩⟩ := And.intro (inR_n (b2_ne h6).1) (inR_n (b2_ne h6).2)
      have he10 : e < 10 := by omega
      have ha8 : a < 8 := by omega
      refine j_iload_n C (D 12 rfl) rfl ?_
      refine j_iload_n C (D 13 rfl) rfl ?_
      refine j_cSp C B k_X11_262 (c_cellOf _ _ _ _ _) rfl rfl rfl rfl ⟨Nat.le_refl _, Nat.le_refl _⟩ (D 14 rfl) ?_
      refine j_istore C (D 15 rfl) rfl ?_
      refine j_iload_n C (D 16 rfl) rfl ?_
      refine j_if_ne C  45 (D 17 rfl) (by decide) (fun h29 => ?_) (fun h29 => ?_)
      · refine j_aload_n C (D 24 rfl) rfl ?_
        refine j_getr C f_X11_37 (lit (kd := 11) (n := 12) rfl) rfl rfl hr5 (D 25 rfl) ?_
        refine j_getr C f_X11_268 (sC0 hc) rfl rfl (hL _ _ _ (rC3 hc)) (D 26 rfl) ?_
        refine j_iload C (D 27 rfl) rfl ?_
        refine j_iald C (sC4 hc) (ix_cell ha8 he10) (D 28 rfl) ?_
        rw [(hT.2.2.2.2.2.1 a e ha he10).2.2]
        exact j_iret C P rfl (D 29 rfl) ⟨Nat.le_refl _, Nat.le_refl _⟩ (qc0 (by rw [a_gains_t ⟨(b2_ne h6), ((wC (by decide) (by decide)).mp (b2_ne h15))⟩, tn_n (by omega), tn_n (by omega), if_neg h29]))
      · refine j_aload_n C (D 18 rfl) rfl ?_
        refine j_getr C f_X11_37 (lit (kd := 11) (n := 12) rfl) rfl rfl hr5 (D 19 rfl) ?_
        refine j_getr C f_X11_265 (sC0 hc) rfl rfl (hL _ _ _ (rC2 hc)) (D 20 rfl) ?_
        refine j_iload C (D 21 rfl) rfl ?_
        refine j_iald C (sC3 hc) (ix_cell ha8 he10) (D 22 rfl) ?_
        rw [(hT.2.2.2.2.2.1 a e ha he10).2.1]
        refine j_goto C 55 (D 23 rfl) (by decide) ?_
        exact j_iret C P rfl (D 29 rfl) ⟨Nat.le_refl _, Nat.le_refl _⟩ (qc0 (by rw [a_gains_t ⟨(b2_ne h6), ((wC (by decide) (by decide)).mp (b2_ne h15))⟩, tn_n (by omega), tn_n (by omega), if_pos h29]))
    · refine j_bipush C (v := (-2)) (D 10 rfl) rfl ?_
      exact j_iret C P rfl (D 11 rfl) ⟨Nat.le_refl _, Nat.le_refl _⟩ (qc0 (a_gains_f (fun z => b2_eq h15 ((wC (by decide) (by decide)).mpr z.2))).symm)
set_option maxRecDepth 20000 in
theorem d_gainsQ (l : Launch) (G : GT) {I : Nat → Nat → Int32} {L : Nat → Nat → Int64} {R : Nat → Nat → Option Nat} (hL : Lay R) {V : VT} (hV : WV V) (hM : MT I V) (ld : Bool) (hld : I 172 1 = b2 (ld = true)) (a e w : Int32) : Mt l G mX12_gains (3) 0 0 [.ref (ra G 172), .int a, .int e, .int w] (wd I L R) (qM (a_gains V ld a e w) I R) := by
  refine mt_of (own := RX12) (by decide) rfl rfl (fun Z C P B => ?_)
  have D := @dc_of _ _ dX12_gains
  have hE10 := hV.1
  have hA8 := hV.2.1
  refine j_aload_n C (D 0 rfl) rfl ?_
  refine j_iload_n C (D 1 rfl) rfl ?_
  refine j_iload_n C (D 2 rfl) rfl ?_
  refine j_cVp C B k_X12_407 (rc_obj C (lit (kd := 12) (n := 48) rfl) rfl rfl) (d_isBoth _ _ hL (vA V) (vE V) hM.2.1 (by omega) hM.1 (by omega) _ _) rfl rfl rfl rfl ⟨Nat.le_refl _, Nat.le_refl _⟩ (D 3 rfl) ?_
  refine j_if_eq C  19 (D 4 rfl) (by decide) (fun h6 => ?_) (fun h6 => ?_)
  · refine j_bipush C (v := (-2)) (D 11 rfl) rfl ?_
    exact j_iret C P rfl (D 12 rfl) ⟨Nat.le_refl _, Nat.le_refl _⟩ (qm0 (a_gains_f (fun z => b2_eq h6 z.1)).symm)
  · refine j_iload_n C (D 5 rfl) rfl ?_
    refine j_i2l C (D 6 rfl) ?_
    refine j_lconst C (v := 0) (D 7 rfl) rfl ?_
    refine j_lconst C (v := 1) (D 8 rfl) rfl ?_
    refine j_cSp C B k_X12_99 (d_in _ _ _ _ _ _) rfl rfl rfl rfl ⟨Nat.le_refl _, Nat.le_refl _⟩ (D 9 rfl) ?_
    refine j_if_ne C  22 (D 10 rfl) (by decide) (fun h16 => ?_) (fun h16 => ?_)
    · obtain ⟨⟨a, ha, rfl⟩, ⟨e, he, rfl⟩⟩ := And.intro (inR_n (b2_ne h6).1) (inR_n (b2_ne h6).2)
      have he10 : e < 10 := by omega
      have ha8 : a < 8 := by omega
      refine j_iload_n C (D 13 rfl) rfl ?_
      refine j_if_ne C  40 (D 14 rfl) (by decide) (fun h23 => ?_) (fun h23 => ?_)
      · refine j_aload_n C (D 24 rfl) rfl ?_
        refine j_getr C f_X12_28 (lit (kd := 12) (n := 48) rfl) rfl rfl (hL _ _ _ rfl) (D 25 rfl) ?_
        refine j_bipush C (v := nI 10) (D 26 rfl) rfl ?_
        refine j_iload_n C (D 27 rfl) rfl ?_
        refine j_imul C (D 28 rfl) ?_
        refine j_iload_n C (D 29 rfl) rfl ?_
        refine j_iadd C (D 30 rfl) ?_
        refine j_iald C (lit (kd := 20) (n := 80) rfl) (ix_cell' ha8 he10) (D 31 rfl) ?_
        rw [(hM.2.2.2.2.2.1 a e ha he10).2.2]
        exact j_iret C P rfl (D 32 rfl) ⟨Nat.le_refl _, Nat.le_refl _⟩ (qm0 (by rw [a_gains_t ⟨(b2_ne h6), ((wL (by decide) (by decide)).mp (b2_ne h16))⟩, tn_n (by omega), tn_n (by omega), if_neg h23]))
      · refine j_aload_n C (D 15 rfl) rfl ?_
        refine j_getr C f_X12_25 (lit (kd := 12) (n := 48) rfl) rfl rfl (hL _ _ _ rfl) (D 16 rfl) ?_
        refine j_bipush C (v := nI 10) (D 17 rfl) rfl ?_
        refine j_iload_n C (D 18 rfl) rfl ?_
        refine j_imul C (D 19 rfl) ?_
        refine j_iload_n C (D 20 rfl) rfl ?_
        refine j_iadd C (D 21 rfl) ?_
        refine j_iald C (lit (kd := 20) (n := 80) rfl) (ix_cell' ha8 he10) (D 22 rfl) ?_
        rw [(hM.2.2.2.2.2.1 a e ha he10).2.1]
        refine j_goto C 51 (D 23 rfl) (by decide) ?_
        exact j_iret C P rfl (D 32 rfl) ⟨Nat.le_refl _, Nat.le_refl _⟩ (qm0 (by rw [a_gains_t ⟨(b2_ne h6), ((wL (by decide) (by decide)).mp (b2_ne h16))⟩, tn_n (by omega), tn_n (by omega), if_pos h23]))
    · refine j_bipush C (v := (-2)) (D 11 rfl) rfl ?_
      exact j_iret C P rfl (D 12 rfl) ⟨Nat.le_refl _, Nat.le_refl _⟩ (qm0 (a_gains_f (fun z => b2_eq h16 ((wL (by decide) (by decide)).mpr z.2))).symm)
def a_hour (V : VT) (ld : Bool) (a e h : Int32) : Int32 := if (inR (vA V) a ∧ inR (vE V) e) ∧ wi 1 999 h then pts (vev V (tn e)) (trS (vev V (tn e)) (vmk V (tn a) (tn e)) (vgo V (tn a) (tn e)) (vgi V (tn a) (tn e)) (tn h)) - pts (vev V (tn e)) (trS (vev V (tn e)) (vmk V (tn a) (tn e)) (vgo V (tn a) (tn e)) (vgi V (tn a) (tn e)) (tn h - 1)) else -2
theorem a_hour_t {V : VT} {ld : Bool} {a e h : Int32} (hX : (inR (vA V) a ∧ inR (vE V) e) ∧ wi 1 999 h) : a_hour V ld a e h = pts (vev V (tn e)) (trS (vev V (tn e)) (vmk V (tn a) (tn e)) (vgo V (tn a) (tn e)) (vgi V (tn a) (tn e)) (tn h)) - pts (vev V (tn e)) (trS (vev V (tn e)) (vmk V (tn a) (tn e)) (vgo V (tn a) (tn e)) (vgi V (tn a) (tn e)) (tn h - 1)) := if_pos hX
theorem a_hour_f {V : VT} {ld : Bool} {a e h : Int32} (hX : ¬ ((inR (vA V) a ∧ inR (vE V) e) ∧ wi 1 999 h)) : a_hour V ld a e h = -2 := if_neg hX
set_option maxRecDepth 20000 in
theorem c_hourQ (l : Launch) (G : GT) {c : Nat} (hc : isC c) {I : Nat → Nat → Int32} {L : Nat → Nat → Int64} {R : Nat → Nat → Option Nat} (hL : Lay R) (hr5 : R 0 5 = some c) {V : VT} (hV : WV V) (hT : CT I c V) (ld : Bool) (hld : I 0 6 = b2 (ld = true)) (a e h : Int32) : Mt l G mX11_hour (4) 0 0 [.ref (ra G 0), .int a, .int e, .int h] (wd I L R) (qC (a_hour V ld a e h) I R) := by
  refine mt_of (own := RX11) (by decide) rfl rfl (fun Z C P B => ?_)
  have D := @dc_of _ _ dX11_hour
  have hE10 := hV.1
  have hA8 := hV.2.1
  refine j_aload_n C (D 0 rfl) rfl ?_
  refine j_iload_n C (D 1 rfl) rfl ?_
  refine j_iload_n C (D 2 rfl) rfl ?_
  refine j_cVp C B k_X11_174 (rc_obj C (lit (kd := 11) (n := 12) rfl) rfl rfl) (c_hasCell _ _ hc hL hr5 hV hT ld hld _ _) rfl rfl rfl rfl ⟨Nat.le_refl _, Nat.le_refl _⟩ (D 3 rfl) ?_
  refine j_if_eq C  20 (D 4 rfl) (by decide) (fun h6 => ?_) (fun h6 => ?_)
  · refine j_bipush C (v := (-2)) (D 10 rfl) rfl ?_
    exact j_iret C P rfl (D 11 rfl) ⟨Nat.le_refl _, Nat.le_refl _⟩ (qc0 (a_hour_f (fun z => b2_eq h6 z.1)).symm)
  · refine j_iload_n C (D 5 rfl) rfl ?_
    refine j_iconst C (v := nI 1) (D 6 rfl) rfl ?_
    refine j_sipush C (v := nI 999) (D 7 rfl) rfl ?_
    refine j_cSp C B k_X11_158 (c_isWithin _ _ _ _ _ _) rfl rfl rfl rfl ⟨Nat.le_refl _, Nat.le_refl _⟩ (D 8 rfl) ?_
    refine j_if_ne C  23 (D 9 rfl) (by decide) (fun h17 => ?_) (fun h17 => ?_)
    · obtain ⟨⟨a, ha, rfl⟩, ⟨e, he, rfl⟩⟩ := And.intro (inR_n (b2_ne h6).1) (inR_n (b2_ne h6).2)
      have he10 : e < 10 := by omega
      have ha8 : a < 8 := by omega
      obtain ⟨h, hlo, hh, rfl⟩ := wi_n (a := 1) (b := 999) ((wC (by decide) (by decide)).mp (b2_ne h17))
      refine j_aload_n C (D 12 rfl) rfl ?_
      refine j_getr C f_X11_37 (lit (kd := 11) (n := 12) rfl) rfl rfl hr5 (D 13 rfl) ?_
      refine j_iload_n C (D 14 rfl) rfl ?_
      refine j_iload_n C (D 15 rfl) rfl ?_
      refine j_iload_n C (D 16 rfl) rfl ?_
      refine j_cVp C B k_X11_271 (rc_obj C (sC0 hc) rfl rfl) (c_valueAfter _ _ hc hL hV hT a e h ha he hh) rfl rfl rfl rfl ⟨Nat.le_refl _, Nat.le_refl _⟩ (D 17 rfl) ?_
      refine j_aload_n C (D 18 rfl) rfl ?_
      refine j_getr C f_X11_37 (lit (kd := 11) (n := 12) rfl) rfl rfl hr5 (D 19 rfl) ?_
      refine j_iload_n C (D 20 rfl) rfl ?_
      refine j_iload_n C (D 21 rfl) rfl ?_
      refine j_iload_n C (D 22 rfl) rfl ?_
      refine j_iconst C (v := nI 1) (D 23 rfl) rfl ?_
      refine j_isub C (D 24 rfl) ?_
      rw [pk_sub hlo]
      refine j_cVp C B k_X11_271 (rc_obj C (sC0 hc) rfl rfl) (c_valueAfter _ _ hc hL hV hT a e (h - 1) ha he (by omega)) rfl rfl rfl rfl ⟨Nat.le_refl _, Nat.le_refl _⟩ (D 25 rfl) ?_
      refine j_isub C (D 26 rfl) ?_
      exact j_iret C P rfl (D 27 rfl) ⟨Nat.le_refl _, Nat.le_refl _⟩ (qc0 (by rw [a_hour_t ⟨(b2_ne h6), ((wC (by decide) (by decide)).mp (b2_ne h17))⟩, tn_n (by omega), tn_n (by omega), tn_n (by omega)]))
    · refine j_bipush C (v := (-2)) (D 10 rfl) rfl ?_
      exact j_iret C P rfl (D 11 rfl) ⟨Nat.le_refl _, Nat.le_refl _⟩ (qc0 (a_hour_f (fun z => b2_eq h17 ((wC (by decide) (by decide)).mpr z.2))).symm)
set_option maxRecDepth 20000 in
theorem d_hourQ (l : Launch) (G : GT) {I : Nat → Nat → Int32} {L : Nat → Nat → Int64} {R : Nat → Nat → Option Nat} (hL : Lay R) {V : VT} (hV : WV V) (hM : MT I V) (ld : Bool) (hld : I 172 1 = b2 (ld = true)) (a e h : Int32) : Mt l G mX12_hour (4) 0 0 [.ref (ra G 172), .int a, .int e, .int h] (wd I L R) (qM (a_hour V ld a e h) I R) := by
  refine mt_of (own := RX12) (by decide) rfl rfl (fun Z C P B => ?_)
  have D := @dc_of _ _ dX12_hour
  have hE10 := hV.1
  have hA8 := hV.2.1
  refine j_aload_n C (D 0 rfl) rfl ?_
  refine j_iload_n C (D 1 rfl) rfl ?_
  refine j_iload_n C (D 2 rfl) rfl ?_
  refine j_cVp C B k_X12_407 (rc_obj C (lit (kd := 12) (n := 48) rfl) rfl rfl) (d_isBoth _ _ hL (vA V) (vE V) hM.2.1 (by omega) hM.1 (by omega) _ _) rfl rfl rfl rfl ⟨Nat.le_refl _, Nat.le_refl _⟩ (D 3 rfl) ?_
  refine j_if_eq C  41 (D 4 rfl) (by decide) (fun h6 => ?_) (fun h6 => ?_)
  · refine j_bipush C (v := (-2)) (D 25 rfl) rfl ?_
    exact j_iret C P rfl (D 26 rfl) ⟨Nat.le_refl _, Nat.le_refl _⟩ (qm0 (a_hour_f (fun z => b2_eq h6 z.1)).symm)
  · refine j_iload_n C (D 5 rfl) rfl ?_
    refine j_i2l C (D 6 rfl) ?_
    refine j_lconst C (v := 1) (D 7 rfl) rfl ?_
    refine j_ldc2_w C (v := 999) (D 8 rfl) n_X12_428 ?_
    refine j_cSp C B k_X12_99 (d_in _ _ _ _ _ _) rfl rfl rfl rfl ⟨Nat.le_refl _, Nat.le_refl _⟩ (D 9 rfl) ?_
    refine j_if_eq C  41 (D 10 rfl) (by decide) (fun h18 => ?_) (fun h18 => ?_)
    · refine j_bipush C (v := (-2)) (D 25 rfl) rfl ?_
      exact j_iret C P rfl (D 26 rfl) ⟨Nat.le_refl _, Nat.le_refl _⟩ (qm0 (a_hour_f (fun z => b2_eq h18 ((wL (by decide) (by decide)).mpr z.2))).symm)
    · obtain ⟨⟨a, ha, rfl⟩, ⟨e, he, rfl⟩⟩ := And.intro (inR_n (b2_ne h6).1) (inR_n (b2_ne h6).2)
      have he10 : e < 10 := by omega
      have ha8 : a < 8 := by omega
      obtain ⟨h, hlo, hh, rfl⟩ := wi_n (a := 1) (b := 999) ((wL (by decide) (by decide)).mp (b2_ne h18))
      refine j_aload_n C (D 11 rfl) rfl ?_
      refine j_iload_n C (D 12 rfl) rfl ?_
      refine j_iload_n C (D 13 rfl) rfl ?_
      refine j_iload_n C (D 14 rfl) rfl ?_
      refine j_cVp C B k_X12_434 (rc_obj C (lit (kd := 12) (n := 48) rfl) rfl rfl) (d_trainedWorth _ _ hL hV hM a e h ha he hh) rfl rfl rfl rfl ⟨Nat.le_refl _, Nat.le_refl _⟩ (D 15 rfl) ?_
      refine j_aload_n C (D 16 rfl) rfl ?_
      refine j_iload_n C (D 17 rfl) rfl ?_
      refine j_iload_n C (D 18 rfl) rfl ?_
      refine j_iload_n C (D 19 rfl) rfl ?_
      refine j_iconst C (v := nI 1) (D 20 rfl) rfl ?_
      refine j_isub C (D 21 rfl) ?_
      rw [pk_sub hlo]
      refine j_cVp C B k_X12_434 (rc_obj C (lit (kd := 12) (n := 48) rfl) rfl rfl) (d_trainedWorth _ _ hL hV hM a e (h - 1) ha he (by omega)) rfl rfl rfl rfl ⟨Nat.le_refl _, Nat.le_refl _⟩ (D 22 rfl) ?_
      refine j_isub C (D 23 rfl) ?_
      refine j_goto C 43 (D 24 rfl) (by decide) ?_
      exact j_iret C P rfl (D 26 rfl) ⟨Nat.le_refl _, Nat.le_refl _⟩ (qm0 (by rw [a_hour_t ⟨(b2_ne h6), ((wL (by decide) (by decide)).mp (b2_ne h18))⟩, tn_n (by omega), tn_n (by omega), tn_n (by omega)]))
def a_pays (V : VT) (ld : Bool) (a h : Int32) : Int32 := if inR (vA V) a ∧ wi 1 999 h then (gtP (pyS V (tn a) (tn h)) (vE V)).1 else -2
theorem a_pays_t {V : VT} {ld : Bool} {a h : Int32} (hX : inR (vA V) a ∧ wi 1 999 h) : a_pays V ld a h = (gtP (pyS V (tn a) (tn h)) (vE V)).1 := if_pos hX
theorem a_pays_f {V : VT} {ld : Bool} {a h : Int32} (hX : ¬ (inR (vA V) a ∧ wi 1 999 h)) : a_pays V ld a h = -2 := if_neg hX
set_option maxRecDepth 20000 in
theorem c_paysQ (l : Launch) (G : GT) {c : Nat} (hc : isC c) {I : Nat → Nat → Int32} {L : Nat → Nat → Int64} {R : Nat → Nat → Option Nat} (hL : Lay R) (hr5 : R 0 5 = some c) {V : VT} (hV : WV V) (hT : CT I c V) (ld : Bool) (hld : I 0 6 = b2 (ld = true)) (a h : Int32) : Mt l G mX11_pays (4) 0 0 [.ref (ra G 0), .int a, .int h] (wd I L R) (qC (a_pays V ld a h) I R) := by
  refine mt_of (own := RX11) (by decide) rfl rfl (fun Z C P B => ?_)
  have D := @dc_of _ _ dX11_pays
  have hE10 := hV.1
  have hA8 := hV.2.1
  refine j_aload_n C (D 0 rfl) rfl ?_
  refine j_iload_n C (D 1 rfl) rfl ?_
  refine j_cVp C B k_X11_184 (rc_obj C (lit (kd := 11) (n := 12) rfl) rfl rfl) (c_hasAthlete _ _ hc hL hr5 hV hT ld hld _) rfl rfl rfl rfl ⟨Nat.le_refl _, Nat.le_refl _⟩ (D 2 rfl) ?_
  refine j_if_eq C  19 (D 3 rfl) (by decide) (fun h5 => ?_) (fun h5 => ?_)
  · refine j_bipush C (v := (-2)) (D 9 rfl) rfl ?_
    exact j_iret C P rfl (D 10 rfl) ⟨Nat.le_refl _, Nat.le_refl _⟩ (qc0 (a_pays_f (fun z => b2_eq h5 z.1)).symm)
  · refine j_iload_n C (D 4 rfl) rfl ?_
    refine j_iconst C (v := nI 1) (D 5 rfl) rfl ?_
    refine j_sipush C (v := nI 999) (D 6 rfl) rfl ?_
    refine j_cSp C B k_X11_158 (c_isWithin _ _ _ _ _ _) rfl rfl rfl rfl ⟨Nat.le_refl _, Nat.le_refl _⟩ (D 7 rfl) ?_
    refine j_if_ne C  22 (D 8 rfl) (by decide) (fun h16 => ?_) (fun h16 => ?_)
    · obtain ⟨a, ha, rfl⟩ := inR_n (b2_ne h5)
      have ha8 : a < 8 := by omega
      obtain ⟨h, hlo, hh, rfl⟩ := wi_n (a := 1) (b := 999) ((wC (by decide) (by decide)).mp (b2_ne h16))
      refine j_iconst C (v := (-1)) (D 11 rfl) rfl ?_
      refine j_istore_n C (D 12 rfl) rfl ?_
      refine j_iconst C (v := nI 0) (D 13 rfl) rfl ?_
      refine j_istore C (D 14 rfl) rfl ?_
      refine j_iconst C (v := nI 0) (D 15 rfl) rfl ?_
      refine j_istore C (D 16 rfl) rfl ?_
      have Lp : ∀ (m e : Nat) (x6 : Option Value), e + m = vE V → J Z (0, 0) 30 [some (.ref (ra G 0)), some (.int (nI a)), some (.int (nI h)), some (.int (gtP (pyS V a h) e).1), some (.int (gtP (pyS V a h) e).2), some (.int (nI e)), x6] [] (wd I L R) := by
        intro m
        induction m with
        | zero =>
          intro e x6 he
          refine j_iload C (D 17 rfl) rfl ?_
          refine j_aload_n C (D 18 rfl) rfl ?_
          refine j_getr C f_X11_37 (lit (kd := 11) (n := 12) rfl) rfl rfl hr5 (D 19 rfl) ?_
          refine j_geti C f_X11_98 (sC0 hc) rfl rfl (D 20 rfl) ?_
          rw [hT.1]
          refine j_icmp_ge C  86 (D 21 rfl) (by decide) (fun h39 => ?_) (fun h39 => absurd h39 (fun z => z ((nle (by omega) (by omega)).mpr (by omega))))
          refine j_iload_n C (D 44 rfl) rfl ?_
          exact j_iret C P rfl (D 45 rfl) ⟨Nat.le_refl _, Nat.le_refl _⟩ (qc0 (by rw [a_pays_t ⟨(b2_ne h5), ((wC (by decide) (by decide)).mp (b2_ne h16))⟩, tn_n (by omega), tn_n (by omega), show vE V = e by omega]))
        | succ m ih =>
          intro e x6 he
          refine j_iload C (D 17 rfl) rfl ?_
          refine j_aload_n C (D 18 rfl) rfl ?_
          refine j_getr C f_X11_37 (lit (kd := 11) (n := 12) rfl) rfl rfl hr5 (D 19 rfl) ?_
          refine j_geti C f_X11_98 (sC0 hc) rfl rfl (D 20 rfl) ?_
          rw [hT.1]
          refine j_icmp_ge C  86 (D 21 rfl) (by decide) (fun h39 => absurd h39 (fun z => by rw [nle (by omega) (by omega)] at z; omega)) (fun h39 => ?_)
          refine j_aload_n C (D 22 rfl) rfl ?_
          refine j_getr C f_X11_37 (lit (kd := 11) (n := 12) rfl) rfl rfl hr5 (D 23 rfl) ?_
          refine j_iload_n C (D 24 rfl) rfl ?_
          refine j_iload C (D 25 rfl) rfl ?_
          refine j_iload_n C (D 26 rfl) rfl ?_
          refine j_cVp C B k_X11_271 (rc_obj C (sC0 hc) rfl rfl) (c_valueAfter _ _ hc hL hV hT a e h ha (by omega) hh) rfl rfl rfl rfl ⟨Nat.le_refl _, Nat.le_refl _⟩ (D 27 rfl) ?_
          refine j_aload_n C (D 28 rfl) rfl ?_
          refine j_getr C f_X11_37 (lit (kd := 11) (n := 12) rfl) rfl rfl hr5 (D 29 rfl) ?_
          refine j_iload_n C (D 30 rfl) rfl ?_
          refine j_iload C (D 31 rfl) rfl ?_
          refine j_cVp C B k_X11_182 (rc_obj C (sC0 hc) rfl rfl) (c_cvalueOf _ _ hc hL hV hT a e ha (by omega)) rfl rfl rfl rfl ⟨Nat.le_refl _, Nat.le_refl _⟩ (D 32 rfl) ?_
          refine j_isub C (D 33 rfl) ?_
          rw [show pts (vev V e) (trS (vev V e) (vmk V a e) (vgo V a e) (vgi V a e) h) - pts (vev V e) (vmk V a e) = pyS V a h e from rfl]
          refine j_istore C (D 34 rfl) rfl ?_
          refine j_iload C (D 35 rfl) rfl ?_
          refine j_iload C (D 36 rfl) rfl ?_
          refine j_icmp_le C  80 (D 37 rfl) (by decide) (fun h70 => ?_) (fun h70 => ?_)
          · first | refine j_iinc1 C (D 42 rfl) rfl rfl ?_ | refine j_iinc C (D 42 rfl) rfl rfl rfl ?_
            refine j_goto C 30 (D 43 rfl) (by decide) ?_
            have hq := ih (e + 1) (some (.int (pyS V a h e))) (by omega)
            rw [gtP_0 h70] at hq
            exact hq
          · refine j_iload C (D 38 rfl) rfl ?_
            refine j_istore C (D 39 rfl) rfl ?_
            refine j_iload C (D 40 rfl) rfl ?_
            refine j_istore_n C (D 41 rfl) rfl ?_
            first | refine j_iinc1 C (D 42 rfl) rfl rfl ?_ | refine j_iinc C (D 42 rfl) rfl rfl rfl ?_
            refine j_goto C 30 (D 43 rfl) (by decide) ?_
            have hq := ih (e + 1) (some (.int (pyS V a h e))) (by omega)
            rw [gtP_1 h70] at hq
            exact hq
      exact Lp (vE V) 0 _ (by omega)
    · refine j_bipush C (v := (-2)) (D 9 rfl) rfl ?_
      exact j_iret C P rfl (D 10 rfl) ⟨Nat.le_refl _, Nat.le_refl _⟩ (qc0 (a_pays_f (fun z => b2_eq h16 ((wC (by decide) (by decide)).mpr z.2))).symm)
set_option maxRecDepth 20000 in
theorem d_paysQ (l : Launch) (G : GT) {I : Nat → Nat → Int32} {L : Nat → Nat → Int64} {R : Nat → Nat → Option Nat} (hL : Lay R) {V : VT} (hV : WV V) (hM : MT I V) (ld : Bool) (hld : I 172 1 = b2 (ld = true)) (a h : Int32) : Mt l G mX12_pays (4) 0 0 [.ref (ra G 172), .int a, .int h] (wd I L R) (qM (a_pays V ld a h) I R) := by
  refine mt_of (own := RX12) (by decide) rfl rfl (fun Z C P B => ?_)
  have D := @dc_of _ _ dX12_pays
  have hE10 := hV.1
  have hA8 := hV.2.1
  refine j_aload_n C (D 0 rfl) rfl ?_
  refine j_iload_n C (D 1 rfl) rfl ?_
  refine j_cVp C B k_X12_317 (rc_obj C (lit (kd := 12) (n := 48) rfl) rfl rfl) (d_isOne _ _ hL (vA V) hM.2.1 (by omega) _) rfl rfl rfl rfl ⟨Nat.le_refl _, Nat.le_refl _⟩ (D 2 rfl) ?_
  refine j_if_eq C  20 (D 3 rfl) (by decide) (fun h5 => ?_) (fun h5 => ?_)
  · refine j_bipush C (v := (-2)) (D 10 rfl) rfl ?_
    exact j_iret C P rfl (D 11 rfl) ⟨Nat.le_refl _, Nat.le_refl _⟩ (qm0 (a_pays_f (fun z => b2_eq h5 z.1)).symm)
  · refine j_iload_n C (D 4 rfl) rfl ?_
    refine j_i2l C (D 5 rfl) ?_
    refine j_lconst C (v := 1) (D 6 rfl) rfl ?_
    refine j_ldc2_w C (v := 999) (D 7 rfl) n_X12_428 ?_
    refine j_cSp C B k_X12_99 (d_in _ _ _ _ _ _) rfl rfl rfl rfl ⟨Nat.le_refl _, Nat.le_refl _⟩ (D 8 rfl) ?_
    refine j_if_ne C  23 (D 9 rfl) (by decide) (fun h17 => ?_) (fun h17 => ?_)
    · obtain ⟨a, ha, rfl⟩ := inR_n (b2_ne h5)
      have ha8 : a < 8 := by omega
      obtain ⟨h, hlo, hh, rfl⟩ := wi_n (a := 1) (b := 999) ((wL (by decide) (by decide)).mp (b2_ne h17))
      refine j_iconst C (v := (-1)) (D 12 rfl) rfl ?_
      refine j_istore_n C (D 13 rfl) rfl ?_
      refine j_iconst C (v := nI 0) (D 14 rfl) rfl ?_
      refine j_istore C (D 15 rfl) rfl ?_
      refine j_iconst C (v := nI 0) (D 16 rfl) rfl ?_
      refine j_istore C (D 17 rfl) rfl ?_
      have Lp : ∀ (m e : Nat) (x6 : Option Value), e + m = vE V → J Z (0, 0) 31 [some (.ref (ra G 172)), some (.int (nI a)), some (.int (nI h)), some (.int (gtP (pyS V a h) e).1), some (.int (gtP (pyS V a h) e).2), some (.int (nI e)), x6] [] (wd I L R) := by
        intro m
        induction m with
        | zero =>
          intro e x6 he
          refine j_iload C (D 18 rfl) rfl ?_
          refine j_aload_n C (D 19 rfl) rfl ?_
          refine j_geti C f_X12_300 (lit (kd := 12) (n := 48) rfl) rfl rfl (D 20 rfl) ?_
          rw [hM.1]
          refine j_icmp_ge C  82 (D 21 rfl) (by decide) (fun h37 => ?_) (fun h37 => absurd h37 (fun z => z ((nle (by omega) (by omega)).mpr (by omega))))
          refine j_iload_n C (D 44 rfl) rfl ?_
          exact j_iret C P rfl (D 45 rfl) ⟨Nat.le_refl _, Nat.le_refl _⟩ (qm0 (by rw [a_pays_t ⟨(b2_ne h5), ((wL (by decide) (by decide)).mp (b2_ne h17))⟩, tn_n (by omega), tn_n (by omega), show vE V = e by omega]))
        | succ m ih =>
          intro e x6 he
          refine j_iload C (D 18 rfl) rfl ?_
          refine j_aload_n C (D 19 rfl) rfl ?_
          refine j_geti C f_X12_300 (lit (kd := 12) (n := 48) rfl) rfl rfl (D 20 rfl) ?_
          rw [hM.1]
          refine j_icmp_ge C  82 (D 21 rfl) (by decide) (fun h37 => absurd h37 (fun z => by rw [nle (by omega) (by omega)] at z; omega)) (fun h37 => ?_)
          refine j_aload_n C (D 22 rfl) rfl ?_
          refine j_iload_n C (D 23 rfl) rfl ?_
          refine j_iload C (D 24 rfl) rfl ?_
          refine j_iload_n C (D 25 rfl) rfl ?_
          refine j_cVp C B k_X12_434 (rc_obj C (lit (kd := 12) (n := 48) rfl) rfl rfl) (d_trainedWorth _ _ hL hV hM a e h ha (by omega) hh) rfl rfl rfl rfl ⟨Nat.le_refl _, Nat.le_refl _⟩ (D 26 rfl) ?_
          refine j_aload_n C (D 27 rfl) rfl ?_
          refine j_iload_n C (D 28 rfl) rfl ?_
          refine j_iload C (D 29 rfl) rfl ?_
          refine j_iconst C (v := nI 0) (D 30 rfl) rfl ?_
          refine j_cVp C B k_X12_434 (rc_obj C (lit (kd := 12) (n := 48) rfl) rfl rfl) (d_trainedWorth _ _ hL hV hM a e 0 ha (by omega) (by omega)) rfl rfl rfl rfl ⟨Nat.le_refl _, Nat.le_refl _⟩ (D 31 rfl) ?_
          refine j_isub C (D 32 rfl) ?_
          rw [trS_0 (hV.2.2.2.2.2.1 a e ha (by omega)).1, show pts (vev V e) (trS (vev V e) (vmk V a e) (vgo V a e) (vgi V a e) h) - pts (vev V e) (vmk V a e) = pyS V a h e from rfl]
          refine j_istore C (D 33 rfl) rfl ?_
          refine j_iload C (D 34 rfl) rfl ?_
          refine j_iload C (D 35 rfl) rfl ?_
          refine j_icmp_gt C  69 (D 36 rfl) (by decide) (fun h63 => ?_) (fun h63 => ?_)
          · refine j_iload C (D 38 rfl) rfl ?_
            refine j_istore_n C (D 39 rfl) rfl ?_
            refine j_iload C (D 40 rfl) rfl ?_
            refine j_istore C (D 41 rfl) rfl ?_
            first | refine j_iinc1 C (D 42 rfl) rfl rfl ?_ | refine j_iinc C (D 42 rfl) rfl rfl rfl ?_
            refine j_goto C 31 (D 43 rfl) (by decide) ?_
            have hq := ih (e + 1) (some (.int (pyS V a h e))) (by omega)
            rw [gtP_1 (fun z => by rw [i_le] at z; rw [i_lt] at h63; omega)] at hq
            exact hq
          · refine j_goto C 76 (D 37 rfl) (by decide) ?_
            first | refine j_iinc1 C (D 42 rfl) rfl rfl ?_ | refine j_iinc C (D 42 rfl) rfl rfl rfl ?_
            refine j_goto C 31 (D 43 rfl) (by decide) ?_
            have hq := ih (e + 1) (some (.int (pyS V a h e))) (by omega)
            rw [gtP_0 (by rw [i_lt] at h63; rw [i_le]; omega)] at hq
            exact hq
      exact Lp (vE V) 0 _ (by omega)
    · refine j_bipush C (v := (-2)) (D 10 rfl) rfl ?_
      exact j_iret C P rfl (D 11 rfl) ⟨Nat.le_refl _, Nat.le_refl _⟩ (qm0 (a_pays_f (fun z => b2_eq h17 ((wL (by decide) (by decide)).mpr z.2))).symm)

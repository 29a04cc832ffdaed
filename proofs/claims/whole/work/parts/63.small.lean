def a_octet (b : BT) (i : Int32) : Int32 := if inR b.1 i then b.2 (tn i) else -1
def a_fault (fk fp w : Int32) : Int32 := if w = 0 then fk else if w = nI 1 then fp else -1
set_option maxRecDepth 20000 in
theorem c_octetQ (l : Launch) (G : GT) {I : Nat → Nat → Int32} {L : Nat → Nat → Int64} {R : Nat → Nat → Option Nat} (hL : Lay R) (b : BT) (hb : b.1 ≤ 64) (hT : TP I 2 1 3 b) (i : Int32) : Mt l G mX11_octet (0) 0 0 [.ref (ra G 0), .int i] (wd I L R) (pV (.int (a_octet b i)) (wd I L R)) := by
  refine mt_of (own := RX11) (by decide) rfl rfl (fun Z C P B => ?_)
  have D := @dc_of _ _ dX11_octet
  refine j_iload_n C (D 0 rfl) rfl ?_
  refine j_if_lt C  27 (D 1 rfl) (by decide) (fun h1 => ?_) (fun h1 => ?_)
  · refine j_iconst C (v := (-1)) (D 13 rfl) rfl ?_
    exact j_iret C P rfl (D 14 rfl) ⟨Nat.le_refl _, Nat.le_refl _⟩ (pv_i (by rw [a_octet, if_neg (fun z => absurd (i_lt.mp h1) (by rw [i0]; have := z.1; omega))]))
  · refine j_iload_n C (D 2 rfl) rfl ?_
    refine j_aload_n C (D 3 rfl) rfl ?_
    refine j_getr C f_X11_16 (lit (kd := 11) (n := 12) rfl) rfl rfl (hL _ _ _ rfl) (D 4 rfl) ?_
    refine j_geti C f_X11_117 (lit (kd := 3) (n := 2) rfl) rfl rfl (D 5 rfl) ?_
    rw [hT.1]
    refine j_icmp_ge C  27 (D 6 rfl) (by decide) (fun h12 => ?_) (fun h12 => ?_)
    · refine j_iconst C (v := (-1)) (D 13 rfl) rfl ?_
      exact j_iret C P rfl (D 14 rfl) ⟨Nat.le_refl _, Nat.le_refl _⟩ (pv_i (by rw [a_octet, if_neg (fun z => by have q := i_le.mp h12; rw [nI_int (by omega)] at q; have := z.2; omega)]))
    · have hin : inR b.1 i := ⟨by rw [i_lt, i0] at h1; omega, by rw [i_le, nI_int (by omega)] at h12; omega⟩
      obtain ⟨i, hi, rfl⟩ := inR_n hin
      refine j_aload_n C (D 7 rfl) rfl ?_
      refine j_getr C f_X11_16 (lit (kd := 11) (n := 12) rfl) rfl rfl (hL _ _ _ rfl) (D 8 rfl) ?_
      refine j_getr C f_X11_308 (lit (kd := 3) (n := 2) rfl) rfl rfl (hL _ _ _ rfl) (D 9 rfl) ?_
      refine j_iload_n C (D 10 rfl) rfl ?_
      refine j_bald C (lit (kd := 21) (n := 64) rfl) (ix_n (by omega) (by decide)) (D 11 rfl) ?_
      rw [hT.2 i hi]
      refine j_goto C 28 (D 12 rfl) (by decide) ?_
      exact j_iret C P rfl (D 14 rfl) ⟨Nat.le_refl _, Nat.le_refl _⟩ (pv_i (by rw [a_octet, if_pos hin, tn_n (by omega)]))
set_option maxRecDepth 20000 in
theorem d_octetQ (l : Launch) (G : GT) {I : Nat → Nat → Int32} {L : Nat → Nat → Int64} {R : Nat → Nat → Option Nat} (hL : Lay R) (b : BT) (hb : b.1 ≤ 64) (hT : TP I 172 47 196 b) (i : Int32) : Mt l G mX12_octet (1) 0 0 [.ref (ra G 172), .int i] (wd I L R) (pV (.int (a_octet b i)) (wd I L R)) := by
  refine mt_of (own := RX12) (by decide) rfl rfl (fun Z C P B => ?_)
  have D := @dc_of _ _ dX12_octet
  refine j_iload_n C (D 0 rfl) rfl ?_
  refine j_i2l C (D 1 rfl) ?_
  refine j_lconst C (v := 0) (D 2 rfl) rfl ?_
  refine j_aload_n C (D 3 rfl) rfl ?_
  refine j_geti C f_X12_314 (lit (kd := 12) (n := 48) rfl) rfl rfl (D 4 rfl) ?_
  rw [hT.1]
  refine j_iconst C (v := nI 1) (D 5 rfl) rfl ?_
  refine j_isub C (D 6 rfl) ?_
  refine j_i2l C (D 7 rfl) ?_
  refine j_cSp C B k_X12_99 (d_in _ _ _ _ _ _) rfl rfl rfl rfl ⟨Nat.le_refl _, Nat.le_refl _⟩ (D 8 rfl) ?_
  refine j_if_eq C  25 (D 9 rfl) (by decide) (fun h13 => ?_) (fun h13 => ?_)
  · refine j_iconst C (v := (-1)) (D 15 rfl) rfl ?_
    exact j_iret C P rfl (D 16 rfl) ⟨Nat.le_refl _, Nat.le_refl _⟩ (pv_i (by rw [a_octet, if_neg (fun z => b2_eq h13 ((prL (n := b.1) (by omega) (by decide)).mpr z))]))
  · have hin : inR b.1 i := (prL (n := b.1) (by omega) (by decide)).mp (b2_ne h13)
    obtain ⟨i, hi, rfl⟩ := inR_n hin
    refine j_aload_n C (D 10 rfl) rfl ?_
    refine j_getr C f_X12_86 (lit (kd := 12) (n := 48) rfl) rfl rfl (hL _ _ _ rfl) (D 11 rfl) ?_
    refine j_iload_n C (D 12 rfl) rfl ?_
    refine j_bald C (lit (kd := 21) (n := 200) rfl) (ix_n (by omega) (by decide)) (D 13 rfl) ?_
    rw [hT.2 i hi]
    refine j_goto C 26 (D 14 rfl) (by decide) ?_
    exact j_iret C P rfl (D 16 rfl) ⟨Nat.le_refl _, Nat.le_refl _⟩ (pv_i (by rw [a_octet, if_pos hin, tn_n (by omega)]))
set_option maxRecDepth 20000 in
theorem c_faultQ (l : Launch) (G : GT) {I : Nat → Nat → Int32} {L : Nat → Nat → Int64} {R : Nat → Nat → Option Nat} (hL : Lay R) (w : Int32) : Mt l G mX11_fault (0) 0 0 [.ref (ra G 0), .int w] (wd I L R) (pV (.int (a_fault (I 4 0) (I 4 1) w)) (wd I L R)) := by
  refine mt_of (own := RX11) (by decide) rfl rfl (fun Z C P B => ?_)
  have D := @dc_of _ _ dX11_fault
  refine j_iload_n C (D 0 rfl) rfl ?_
  refine j_if_ne C  12 (D 1 rfl) (by decide) (fun h1 => ?_) (fun h1 => ?_)
  · refine j_iload_n C (D 6 rfl) rfl ?_
    refine j_iconst C (v := nI 1) (D 7 rfl) rfl ?_
    refine j_icmp_ne C  27 (D 8 rfl) (by decide) (fun h14 => ?_) (fun h14 => ?_)
    · refine j_iconst C (v := (-1)) (D 13 rfl) rfl ?_
      exact j_iret C P rfl (D 14 rfl) ⟨Nat.le_refl _, Nat.le_refl _⟩ (pv_i (by rw [a_fault, if_neg h1, if_neg h14]))
    · refine j_aload_n C (D 9 rfl) rfl ?_
      refine j_getr C f_X11_23 (lit (kd := 11) (n := 12) rfl) rfl rfl (hL _ _ _ rfl) (D 10 rfl) ?_
      refine j_geti C f_X11_95 (lit (kd := 4) (n := 8) rfl) rfl rfl (D 11 rfl) ?_
      refine j_goto C 28 (D 12 rfl) (by decide) ?_
      exact j_iret C P rfl (D 14 rfl) ⟨Nat.le_refl _, Nat.le_refl _⟩ (pv_i (by rw [a_fault, if_neg h1, if_pos h14]))
  · refine j_aload_n C (D 2 rfl) rfl ?_
    refine j_getr C f_X11_23 (lit (kd := 11) (n := 12) rfl) rfl rfl (hL _ _ _ rfl) (D 3 rfl) ?_
    refine j_geti C f_X11_92 (lit (kd := 4) (n := 8) rfl) rfl rfl (D 4 rfl) ?_
    exact j_iret C P rfl (D 5 rfl) ⟨Nat.le_refl _, Nat.le_refl _⟩ (pv_i (by rw [a_fault, if_pos h1]))
set_option maxRecDepth 20000 in
theorem d_faultQ (l : Launch) (G : GT) {I : Nat → Nat → Int32} {L : Nat → Nat → Int64} {R : Nat → Nat → Option Nat} (hL : Lay R) (w : Int32) : Mt l G mX12_fault (0) 0 0 [.ref (ra G 172), .int w] (wd I L R) (pV (.int (a_fault (I 172 34) (I 172 35) w)) (wd I L R)) := by
  refine mt_of (own := RX12) (by decide) rfl rfl (fun Z C P B => ?_)
  have D := @dc_of _ _ dX12_fault
  refine j_iload_n C (D 0 rfl) rfl ?_
  refine j_if_ne C  11 (D 1 rfl) (by decide) (fun h1 => ?_) (fun h1 => ?_)
  · refine j_iload_n C (D 5 rfl) rfl ?_
    refine j_iconst C (v := nI 1) (D 6 rfl) rfl ?_
    refine j_icmp_ne C  23 (D 7 rfl) (by decide) (fun h13 => ?_) (fun h13 => ?_)
    · refine j_iconst C (v := (-1)) (D 11 rfl) rfl ?_
      exact j_iret C P rfl (D 12 rfl) ⟨Nat.le_refl _, Nat.le_refl _⟩ (pv_i (by rw [a_fault, if_neg h1, if_neg h13]))
    · refine j_aload_n C (D 8 rfl) rfl ?_
      refine j_geti C f_X12_56 (lit (kd := 12) (n := 48) rfl) rfl rfl (D 9 rfl) ?_
      refine j_goto C 24 (D 10 rfl) (by decide) ?_
      exact j_iret C P rfl (D 12 rfl) ⟨Nat.le_refl _, Nat.le_refl _⟩ (pv_i (by rw [a_fault, if_neg h1, if_pos h13]))
  · refine j_aload_n C (D 2 rfl) rfl ?_
    refine j_geti C f_X12_103 (lit (kd := 12) (n := 48) rfl) rfl rfl (D 3 rfl) ?_
    refine j_goto C 24 (D 4 rfl) (by decide) ?_
    exact j_iret C P rfl (D 12 rfl) ⟨Nat.le_refl _, Nat.le_refl _⟩ (pv_i (by rw [a_fault, if_pos h1]))
def cnS (V : VT) (ld : Bool) (n tl ol : Nat) : Nat → Int32
  | 0 => nI (vE V)
  | 1 => nI (vA V)
  | 2 => nI (vB V)
  | 3 => vt V
  | 4 => nI n
  | 5 => b2 (ld = true)
  | 6 => nI tl
  | _ => nI ol
def a_count (V : VT) (ld : Bool) (n tl ol : Nat) (w : Int32) : Int32 := if wi 0 7 w then cnS V ld n tl ol (tn w) else -1
theorem a_count_t {V : VT} {ld : Bool} {n tl ol k : Nat} (h : k ≤ 7) : a_count V ld n tl ol (nI k) = cnS V ld n tl ol k := by
  unfold a_count; rw [if_pos ⟨by rw [nI_int (by omega)]; omega, by rw [nI_int (by omega)]; omega⟩, tn_n (by omega)]
set_option maxRecDepth 20000 in
theorem c_countQ (l : Launch) (G : GT) {c : Nat} (hc : isC c) {I : Nat → Nat → Int32} {L : Nat → Nat → Int64} {R : Nat → Nat → Option Nat} (hL : Lay R) (hr5 : R 0 5 = some c) {V : VT} (hV : WV V) (hT : CT I c V) (ld : Bool) (hld : I 0 6 = b2 (ld = true)) (n tl ol : Nat) (hn : I 50 4 = nI n) (htl : I 0 1 = nI tl) (hol : I 2 1 = nI ol) (w : Int32) : Mt l G mX11_count (0) 0 0 [.ref (ra G 0), .int w] (wd I L R) (pV (.int (a_count V ld n tl ol w)) (wd I L R)) := by
  refine mt_of (own := RX11) (by decide) rfl rfl (fun Z C P B => ?_)
  have D := @dc_of _ _ dX11_count
  refine j_iload_n C (D 0 rfl) rfl ?_
  rcases sw_n 7 w with ⟨k9, hk9, rfl⟩ | hout
  · rcases (show k9 = 0 ∨ k9 = 1 ∨ k9 = 2 ∨ k9 = 3 ∨ k9 = 4 ∨ k9 = 5 ∨ k9 = 6 ∨ k9 = 7 by omega) with rfl | rfl | rfl | rfl | rfl | rfl | rfl | rfl
    · refine j_tableIn C 48 (D 1 rfl) (by decide) (by decide) rfl (by decide) ?_
      refine j_aload_n C (D 2 rfl) rfl ?_
      refine j_getr C f_X11_37 (lit (kd := 11) (n := 12) rfl) rfl rfl hr5 (D 3 rfl) ?_
      refine j_geti C f_X11_98 (sC0 hc) rfl rfl (D 4 rfl) ?_
      rw [hT.1]
      exact j_iret C P rfl (D 5 rfl) ⟨Nat.le_refl _, Nat.le_refl _⟩ (pv_i (by rw [a_count_t (by omega)]; rfl))
    · refine j_tableIn C 56 (D 1 rfl) (by decide) (by decide) rfl (by decide) ?_
      refine j_aload_n C (D 6 rfl) rfl ?_
      refine j_getr C f_X11_37 (lit (kd := 11) (n := 12) rfl) rfl rfl hr5 (D 7 rfl) ?_
      refine j_geti C f_X11_101 (sC0 hc) rfl rfl (D 8 rfl) ?_
      rw [hT.2.1]
      exact j_iret C P rfl (D 9 rfl) ⟨Nat.le_refl _, Nat.le_refl _⟩ (pv_i (by rw [a_count_t (by omega)]; rfl))
    · refine j_tableIn C 64 (D 1 rfl) (by decide) (by decide) rfl (by decide) ?_
      refine j_aload_n C (D 10 rfl) rfl ?_
      refine j_getr C f_X11_37 (lit (kd := 11) (n := 12) rfl) rfl rfl hr5 (D 11 rfl) ?_
      refine j_getr C f_X11_104 (sC0 hc) rfl rfl (hL _ _ _ (rC4 hc)) (D 12 rfl) ?_
      refine j_geti C f_X11_108 (sC5 hc) rfl rfl (D 13 rfl) ?_
      rw [hT.2.2.2.1]
      exact j_iret C P rfl (D 14 rfl) ⟨Nat.le_refl _, Nat.le_refl _⟩ (pv_i (by rw [a_count_t (by omega)]; rfl))
    · refine j_tableIn C 75 (D 1 rfl) (by decide) (by decide) rfl (by decide) ?_
      refine j_aload_n C (D 15 rfl) rfl ?_
      refine j_getr C f_X11_37 (lit (kd := 11) (n := 12) rfl) rfl rfl hr5 (D 16 rfl) ?_
      refine j_geti C f_X11_113 (sC0 hc) rfl rfl (D 17 rfl) ?_
      rw [hT.2.2.1]
      exact j_iret C P rfl (D 18 rfl) ⟨Nat.le_refl _, Nat.le_refl _⟩ (pv_i (by rw [a_count_t (by omega)]; rfl))
    · refine j_tableIn C 83 (D 1 rfl) (by decide) (by decide) rfl (by decide) ?_
      refine j_aload_n C (D 19 rfl) rfl ?_
      refine j_getr C f_X11_30 (lit (kd := 11) (n := 12) rfl) rfl rfl (hL _ _ _ rfl) (D 20 rfl) ?_
      refine j_geti C f_X11_116 (lit (kd := 2) (n := 5) rfl) rfl rfl (D 21 rfl) ?_
      rw [hn]
      exact j_iret C P rfl (D 22 rfl) ⟨Nat.le_refl _, Nat.le_refl _⟩ (pv_i (by rw [a_count_t (by omega)]; rfl))
    · refine j_tableIn C 91 (D 1 rfl) (by decide) (by decide) rfl (by decide) ?_
      refine j_aload_n C (D 23 rfl) rfl ?_
      refine j_geti C f_X11_85 (lit (kd := 11) (n := 12) rfl) rfl rfl (D 24 rfl) ?_
      rw [hld]
      refine j_if_eq C  102 (D 25 rfl) (by decide) (fun h95 => ?_) (fun h95 => ?_)
      · refine j_iconst C (v := nI 0) (D 28 rfl) rfl ?_
        exact j_iret C P rfl (D 29 rfl) ⟨Nat.le_refl _, Nat.le_refl _⟩ (pv_i (by rw [a_count_t (by omega)]; exact b2_f (b2_eq h95)))
      · refine j_iconst C (v := nI 1) (D 26 rfl) rfl ?_
        refine j_goto C 103 (D 27 rfl) (by decide) ?_
        exact j_iret C P rfl (D 29 rfl) ⟨Nat.le_refl _, Nat.le_refl _⟩ (pv_i (by rw [a_count_t (by omega)]; exact b2_t (b2_ne h95)))
    · refine j_tableIn C 104 (D 1 rfl) (by decide) (by decide) rfl (by decide) ?_
      refine j_aload_n C (D 30 rfl) rfl ?_
      refine j_geti C f_X11_69 (lit (kd := 11) (n := 12) rfl) rfl rfl (D 31 rfl) ?_
      rw [htl]
      exact j_iret C P rfl (D 32 rfl) ⟨Nat.le_refl _, Nat.le_refl _⟩ (pv_i (by rw [a_count_t (by omega)]; rfl))
    · refine j_tableIn C 109 (D 1 rfl) (by decide) (by decide) rfl (by decide) ?_
      refine j_aload_n C (D 33 rfl) rfl ?_
      refine j_getr C f_X11_16 (lit (kd := 11) (n := 12) rfl) rfl rfl (hL _ _ _ rfl) (D 34 rfl) ?_
      refine j_geti C f_X11_117 (lit (kd := 3) (n := 2) rfl) rfl rfl (D 35 rfl) ?_
      rw [hol]
      exact j_iret C P rfl (D 36 rfl) ⟨Nat.le_refl _, Nat.le_refl _⟩ (pv_i (by rw [a_count_t (by omega)]; rfl))
  · refine j_tableOut C 117 (D 1 rfl) hout (by decide) ?_
    refine j_iconst C (v := (-1)) (D 37 rfl) rfl ?_
    exact j_iret C P rfl (D 38 rfl) ⟨Nat.le_refl _, Nat.le_refl _⟩ (pv_i (by rw [a_count, if_neg (fun z => by have := z.1; have := z.2; omega)]))
set_option maxRecDepth 20000 in
theorem d_countQ (l : Launch) (G : GT) {I : Nat → Nat → Int32} {L : Nat → Nat → Int64} {R : Nat → Nat → Option Nat} (hL : Lay R) {V : VT} (hV : WV V) (hM : MT I V) (ld : Bool) (hld : I 172 1 = b2 (ld = true)) (n tl ol : Nat) (hn : I 172 44 = nI n) (htl : I 172 27 = nI tl) (hol : I 172 47 = nI ol) (w : Int32) : Mt l G mX12_count (0) 0 0 [.ref (ra G 172), .int w] (wd I L R) (pV (.int (a_count V ld n tl ol w)) (wd I L R)) := by
  refine mt_of (own := RX12) (by decide) rfl rfl (fun Z C P B => ?_)
  have D := @dc_of _ _ dX12_count
  refine j_iload_n C (D 0 rfl) rfl ?_
  rcases sw_n 7 w with ⟨k9, hk9, rfl⟩ | hout
  · rcases (show k9 = 0 ∨ k9 = 1 ∨ k9 = 2 ∨ k9 = 3 ∨ k9 = 4 ∨ k9 = 5 ∨ k9 = 6 ∨ k9 = 7 by omega) with rfl | rfl | rfl | rfl | rfl | rfl | rfl | rfl
    · refine j_tableIn C 48 (D 1 rfl) (by decide) (by decide) rfl (by decide) ?_
      refine j_aload_n C (D 2 rfl) rfl ?_
      refine j_geti C f_X12_300 (lit (kd := 12) (n := 48) rfl) rfl rfl (D 3 rfl) ?_
      rw [hM.1]
      exact j_iret C P rfl (D 4 rfl) ⟨Nat.le_refl _, Nat.le_refl _⟩ (pv_i (by rw [a_count_t (by omega)]; rfl))
    · refine j_tableIn C 53 (D 1 rfl) (by decide) (by decide) rfl (by decide) ?_
      refine j_aload_n C (D 5 rfl) rfl ?_
      refine j_geti C f_X12_303 (lit (kd := 12) (n := 48) rfl) rfl rfl (D 6 rfl) ?_
      rw [hM.2.1]
      exact j_iret C P rfl (D 7 rfl) ⟨Nat.le_refl _, Nat.le_refl _⟩ (pv_i (by rw [a_count_t (by omega)]; rfl))
    · refine j_tableIn C 58 (D 1 rfl) (by decide) (by decide) rfl (by decide) ?_
      refine j_aload_n C (D 8 rfl) rfl ?_
      refine j_geti C f_X12_306 (lit (kd := 12) (n := 48) rfl) rfl rfl (D 9 rfl) ?_
      rw [hM.2.2.2.1]
      exact j_iret C P rfl (D 10 rfl) ⟨Nat.le_refl _, Nat.le_refl _⟩ (pv_i (by rw [a_count_t (by omega)]; rfl))
    · refine j_tableIn C 63 (D 1 rfl) (by decide) (by decide) rfl (by decide) ?_
      refine j_aload_n C (D 11 rfl) rfl ?_
      refine j_geti C f_X12_309 (lit (kd := 12) (n := 48) rfl) rfl rfl (D 12 rfl) ?_
      rw [hM.2.2.1]
      exact j_iret C P rfl (D 13 rfl) ⟨Nat.le_refl _, Nat.le_refl _⟩ (pv_i (by rw [a_count_t (by omega)]; rfl))
    · refine j_tableIn C 68 (D 1 rfl) (by decide) (by decide) rfl (by decide) ?_
      refine j_aload_n C (D 14 rfl) rfl ?_
      refine j_geti C f_X12_311 (lit (kd := 12) (n := 48) rfl) rfl rfl (D 15 rfl) ?_
      rw [hn]
      exact j_iret C P rfl (D 16 rfl) ⟨Nat.le_refl _, Nat.le_refl _⟩ (pv_i (by rw [a_count_t (by omega)]; rfl))
    · refine j_tableIn C 73 (D 1 rfl) (by decide) (by decide) rfl (by decide) ?_
      refine j_aload_n C (D 17 rfl) rfl ?_
      refine j_geti C f_X12_297 (lit (kd := 12) (n := 48) rfl) rfl rfl (D 18 rfl) ?_
      rw [hld]
      refine j_if_eq C  84 (D 19 rfl) (by decide) (fun h77 => ?_) (fun h77 => ?_)
      · refine j_iconst C (v := nI 0) (D 22 rfl) rfl ?_
        exact j_iret C P rfl (D 23 rfl) ⟨Nat.le_refl _, Nat.le_refl _⟩ (pv_i (by rw [a_count_t (by omega)]; exact b2_f (b2_eq h77)))
      · refine j_iconst C (v := nI 1) (D 20 rfl) rfl ?_
        refine j_goto C 85 (D 21 rfl) (by decide) ?_
        exact j_iret C P rfl (D 23 rfl) ⟨Nat.le_refl _, Nat.le_refl _⟩ (pv_i (by rw [a_count_t (by omega)]; exact b2_t (b2_ne h77)))
    · refine j_tableIn C 86 (D 1 rfl) (by decide) (by decide) rfl (by decide) ?_
      refine j_aload_n C (D 24 rfl) rfl ?_
      refine j_geti C f_X12_92 (lit (kd := 12) (n := 48) rfl) rfl rfl (D 25 rfl) ?_
      rw [htl]
      exact j_iret C P rfl (D 26 rfl) ⟨Nat.le_refl _, Nat.le_refl _⟩ (pv_i (by rw [a_count_t (by omega)]; rfl))
    · refine j_tableIn C 91 (D 1 rfl) (by decide) (by decide) rfl (by decide) ?_
      refine j_aload_n C (D 27 rfl) rfl ?_
      refine j_geti C f_X12_314 (lit (kd := 12) (n := 48) rfl) rfl rfl (D 28 rfl) ?_
      rw [hol]
      exact j_iret C P rfl (D 29 rfl) ⟨Nat.le_refl _, Nat.le_refl _⟩ (pv_i (by rw [a_count_t (by omega)]; rfl))
  · refine j_tableOut C 96 (D 1 rfl) hout (by decide) ?_
    refine j_iconst C (v := (-1)) (D 30 rfl) rfl ?_
    exact j_iret C P rfl (D 31 rfl) ⟨Nat.le_refl _, Nat.le_refl _⟩ (pv_i (by rw [a_count, if_neg (fun z => by have := z.1; have := z.2; omega)]))

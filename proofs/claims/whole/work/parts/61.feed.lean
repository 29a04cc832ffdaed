def a_feed (b : BT) : Int32 := if b.1 ≤ 1180 then nI (b.1 + 20) else -1
def s_feed (b : BT) (x1 x2 x3 x4 x5 : Int32) : BT := if b.1 ≤ 1180 then put4 (put4 (put4 (put4 (put4 b x1) x2) x3) x4) x5 else b
def a_end (b : BT) (k : Int32) : Int32 := if 0 ≤ k.toInt ∧ k.toInt ≤ b.1 then k else -1
def s_end (b : BT) (k : Int32) : BT := if 0 ≤ k.toInt ∧ k.toInt ≤ b.1 then (tn k, b.2) else b
set_option maxRecDepth 20000 in
theorem c_feedQ (l : Launch) (G : GT) {I : Nat → Nat → Int32} {L : Nat → Nat → Int64} {R : Nat → Nat → Option Nat} (hL : Lay R) (b : BT) (hb : b.1 ≤ 1200) (hT : TP I 0 1 1 b) (x1 x2 x3 x4 x5 : Int32) : Mt l G mX11_feed (1) 0 0 [.ref (ra G 0), .int x1, .int x2, .int x3, .int x4, .int x5] (wd I L R) (fun r w' => r = some (.int (a_feed b)) ∧ ∃ I', w' = wd I' L R ∧ TP I' 0 1 1 (s_feed b x1 x2 x3 x4 x5) ∧ FrT 0 1 1 I I') := by
  refine mt_of (own := RX11) (by decide) rfl rfl (fun Z C P B => ?_)
  have D := @dc_of _ _ dX11_feed
  refine j_aload_n C (D 0 rfl) rfl ?_
  refine j_geti C f_X11_69 (lit (kd := 11) (n := 12) rfl) rfl rfl (D 1 rfl) ?_
  rw [hT.1]
  refine j_sipush C (v := nI 1180) (D 2 rfl) rfl ?_
  refine j_icmp_le C  12 (D 3 rfl) (by decide) (fun h7 => ?_) (fun h7 => ?_)
  · have hb2 : b.1 ≤ 1180 := by rw [nle (by omega) (by omega)] at h7; omega
    refine j_aload_n C (D 6 rfl) rfl ?_
    refine j_iload_n C (D 7 rfl) rfl ?_
    refine j_callV C B k_X11_73 (rc_obj C (lit (kd := 11) (n := 12) rfl) rfl rfl) (c_append _ _ hL b x1 (by omega) hT) rfl rfl rfl rfl ⟨Nat.le_refl _, Nat.le_refl _⟩ (D 8 rfl) ?_
    rintro r w' ⟨rfl, I1, rfl, hT1, hF1⟩
    refine j_aload_n C (D 9 rfl) rfl ?_
    refine j_iload_n C (D 10 rfl) rfl ?_
    refine j_callV C B k_X11_73 (rc_obj C (lit (kd := 11) (n := 12) rfl) rfl rfl) (c_append _ _ hL (put4 b x1) x2 (by show b.1 + 4 + 4 ≤ 1200; omega) hT1) rfl rfl rfl rfl ⟨Nat.le_refl _, Nat.le_refl _⟩ (D 11 rfl) ?_
    rintro r w' ⟨rfl, I2, rfl, hT2, hF2⟩
    refine j_aload_n C (D 12 rfl) rfl ?_
    refine j_iload_n C (D 13 rfl) rfl ?_
    refine j_callV C B k_X11_73 (rc_obj C (lit (kd := 11) (n := 12) rfl) rfl rfl) (c_append _ _ hL (put4 (put4 b x1) x2) x3 (by show b.1 + 8 + 4 ≤ 1200; omega) hT2) rfl rfl rfl rfl ⟨Nat.le_refl _, Nat.le_refl _⟩ (D 14 rfl) ?_
    rintro r w' ⟨rfl, I3, rfl, hT3, hF3⟩
    refine j_aload_n C (D 15 rfl) rfl ?_
    refine j_iload C (D 16 rfl) rfl ?_
    refine j_callV C B k_X11_73 (rc_obj C (lit (kd := 11) (n := 12) rfl) rfl rfl) (c_append _ _ hL (put4 (put4 (put4 b x1) x2) x3) x4 (by show b.1 + 12 + 4 ≤ 1200; omega) hT3) rfl rfl rfl rfl ⟨Nat.le_refl _, Nat.le_refl _⟩ (D 17 rfl) ?_
    rintro r w' ⟨rfl, I4, rfl, hT4, hF4⟩
    refine j_aload_n C (D 18 rfl) rfl ?_
    refine j_iload C (D 19 rfl) rfl ?_
    refine j_callV C B k_X11_73 (rc_obj C (lit (kd := 11) (n := 12) rfl) rfl rfl) (c_append _ _ hL (put4 (put4 (put4 (put4 b x1) x2) x3) x4) x5 (by show b.1 + 16 + 4 ≤ 1200; omega) hT4) rfl rfl rfl rfl ⟨Nat.le_refl _, Nat.le_refl _⟩ (D 20 rfl) ?_
    rintro r w' ⟨rfl, I5, rfl, hT5, hF5⟩
    refine j_aload_n C (D 21 rfl) rfl ?_
    refine j_geti C f_X11_69 (lit (kd := 11) (n := 12) rfl) rfl rfl (D 22 rfl) ?_
    rw [hT5.1]
    exact j_iret C P rfl (D 23 rfl) ⟨Nat.le_refl _, Nat.le_refl _⟩ ⟨by rw [a_feed, if_pos hb2]; rfl, I5, rfl, by rw [s_feed, if_pos hb2]; exact hT5, hF1.tr (hF2.tr (hF3.tr (hF4.tr hF5)))⟩
  · refine j_iconst C (v := (-1)) (D 4 rfl) rfl ?_
    exact j_iret C P rfl (D 5 rfl) ⟨Nat.le_refl _, Nat.le_refl _⟩ ⟨by rw [a_feed, if_neg (fun z => h7 ((nle (by omega) (by omega)).mpr (by omega)))], I, rfl, by rw [s_feed, if_neg (fun z => h7 ((nle (by omega) (by omega)).mpr (by omega)))]; exact hT, fun _ _ _ _ => rfl⟩
set_option maxRecDepth 20000 in
theorem d_feedQ (l : Launch) (G : GT) {I : Nat → Nat → Int32} {L : Nat → Nat → Int64} {R : Nat → Nat → Option Nat} (hL : Lay R) (b : BT) (hb : b.1 ≤ 1200) (hT : TP I 172 27 187 b) (x1 x2 x3 x4 x5 : Int32) : Mt l G mX12_feed (1) 0 0 [.ref (ra G 172), .int x1, .int x2, .int x3, .int x4, .int x5] (wd I L R) (fun r w' => r = some (.int (a_feed b)) ∧ ∃ I', w' = wd I' L R ∧ TP I' 172 27 187 (s_feed b x1 x2 x3 x4 x5) ∧ FrT 172 27 187 I I') := by
  refine mt_of (own := RX12) (by decide) rfl rfl (fun Z C P B => ?_)
  have D := @dc_of _ _ dX12_feed
  refine j_aload_n C (D 0 rfl) rfl ?_
  refine j_geti C f_X12_92 (lit (kd := 12) (n := 48) rfl) rfl rfl (D 1 rfl) ?_
  rw [hT.1]
  refine j_bipush C (v := nI 20) (D 2 rfl) rfl ?_
  refine j_iadd C (D 3 rfl) ?_
  rw [nI_add]
  refine j_sipush C (v := nI 1200) (D 4 rfl) rfl ?_
  refine j_icmp_le C  15 (D 5 rfl) (by decide) (fun h10 => ?_) (fun h10 => ?_)
  · have hb2 : b.1 ≤ 1180 := by rw [nle (by omega) (by omega)] at h10; omega
    refine j_aload_n C (D 8 rfl) rfl ?_
    refine j_iload_n C (D 9 rfl) rfl ?_
    refine j_callV C B k_X12_95 (rc_obj C (lit (kd := 12) (n := 48) rfl) rfl rfl) (d_puts4 _ _ hL b x1 (by omega) hT) rfl rfl rfl rfl ⟨Nat.le_refl _, Nat.le_refl _⟩ (D 10 rfl) ?_
    rintro r w' ⟨rfl, I1, rfl, hT1, hF1⟩
    refine j_aload_n C (D 11 rfl) rfl ?_
    refine j_iload_n C (D 12 rfl) rfl ?_
    refine j_callV C B k_X12_95 (rc_obj C (lit (kd := 12) (n := 48) rfl) rfl rfl) (d_puts4 _ _ hL (put4 b x1) x2 (by show b.1 + 4 + 4 ≤ 1200; omega) hT1) rfl rfl rfl rfl ⟨Nat.le_refl _, Nat.le_refl _⟩ (D 13 rfl) ?_
    rintro r w' ⟨rfl, I2, rfl, hT2, hF2⟩
    refine j_aload_n C (D 14 rfl) rfl ?_
    refine j_iload_n C (D 15 rfl) rfl ?_
    refine j_callV C B k_X12_95 (rc_obj C (lit (kd := 12) (n := 48) rfl) rfl rfl) (d_puts4 _ _ hL (put4 (put4 b x1) x2) x3 (by show b.1 + 8 + 4 ≤ 1200; omega) hT2) rfl rfl rfl rfl ⟨Nat.le_refl _, Nat.le_refl _⟩ (D 16 rfl) ?_
    rintro r w' ⟨rfl, I3, rfl, hT3, hF3⟩
    refine j_aload_n C (D 17 rfl) rfl ?_
    refine j_iload C (D 18 rfl) rfl ?_
    refine j_callV C B k_X12_95 (rc_obj C (lit (kd := 12) (n := 48) rfl) rfl rfl) (d_puts4 _ _ hL (put4 (put4 (put4 b x1) x2) x3) x4 (by show b.1 + 12 + 4 ≤ 1200; omega) hT3) rfl rfl rfl rfl ⟨Nat.le_refl _, Nat.le_refl _⟩ (D 19 rfl) ?_
    rintro r w' ⟨rfl, I4, rfl, hT4, hF4⟩
    refine j_aload_n C (D 20 rfl) rfl ?_
    refine j_iload C (D 21 rfl) rfl ?_
    refine j_callV C B k_X12_95 (rc_obj C (lit (kd := 12) (n := 48) rfl) rfl rfl) (d_puts4 _ _ hL (put4 (put4 (put4 (put4 b x1) x2) x3) x4) x5 (by show b.1 + 16 + 4 ≤ 1200; omega) hT4) rfl rfl rfl rfl ⟨Nat.le_refl _, Nat.le_refl _⟩ (D 22 rfl) ?_
    rintro r w' ⟨rfl, I5, rfl, hT5, hF5⟩
    refine j_aload_n C (D 23 rfl) rfl ?_
    refine j_geti C f_X12_92 (lit (kd := 12) (n := 48) rfl) rfl rfl (D 24 rfl) ?_
    rw [hT5.1]
    exact j_iret C P rfl (D 25 rfl) ⟨Nat.le_refl _, Nat.le_refl _⟩ ⟨by rw [a_feed, if_pos hb2]; rfl, I5, rfl, by rw [s_feed, if_pos hb2]; exact hT5, hF1.tr (hF2.tr (hF3.tr (hF4.tr hF5)))⟩
  · refine j_iconst C (v := (-1)) (D 6 rfl) rfl ?_
    exact j_iret C P rfl (D 7 rfl) ⟨Nat.le_refl _, Nat.le_refl _⟩ ⟨by rw [a_feed, if_neg (fun z => h10 ((nle (by omega) (by omega)).mpr (by omega)))], I, rfl, by rw [s_feed, if_neg (fun z => h10 ((nle (by omega) (by omega)).mpr (by omega)))]; exact hT, fun _ _ _ _ => rfl⟩
set_option maxRecDepth 20000 in
theorem c_endQ (l : Launch) (G : GT) {I : Nat → Nat → Int32} {L : Nat → Nat → Int64} {R : Nat → Nat → Option Nat} (hL : Lay R) (b : BT) (hb : b.1 ≤ 1200) (hT : TP I 0 1 1 b) (k : Int32) : Mt l G mX11_end (1) 0 0 [.ref (ra G 0), .int k] (wd I L R) (fun r w' => r = some (.int (a_end b k)) ∧ ∃ I', w' = wd I' L R ∧ TP I' 0 1 1 (s_end b k) ∧ FrT 0 1 1 I I') := by
  refine mt_of (own := RX11) (by decide) rfl rfl (fun Z C P B => ?_)
  have D := @dc_of _ _ dX11_end
  refine j_iload_n C (D 0 rfl) rfl ?_
  refine j_if_lt C  12 (D 1 rfl) (by decide) (fun h1 => ?_) (fun h1 => ?_)
  · refine j_iconst C (v := (-1)) (D 6 rfl) rfl ?_
    exact j_iret C P rfl (D 7 rfl) ⟨Nat.le_refl _, Nat.le_refl _⟩ ⟨by rw [a_end, if_neg (fun z => absurd (i_lt.mp h1) (by rw [i0]; have := z.1; omega))], I, rfl, by rw [s_end, if_neg (fun z => absurd (i_lt.mp h1) (by rw [i0]; have := z.1; omega))]; exact hT, fun _ _ _ _ => rfl⟩
  · refine j_iload_n C (D 2 rfl) rfl ?_
    refine j_aload_n C (D 3 rfl) rfl ?_
    refine j_geti C f_X11_69 (lit (kd := 11) (n := 12) rfl) rfl rfl (D 4 rfl) ?_
    rw [hT.1]
    refine j_icmp_le C  14 (D 5 rfl) (by decide) (fun h9 => ?_) (fun h9 => ?_)
    · have hk : 0 ≤ k.toInt ∧ k.toInt ≤ b.1 := ⟨by rw [i_lt, i0] at h1; omega, by rw [i_le, nI_int (by omega)] at h9; exact h9⟩
      refine j_aload_n C (D 8 rfl) rfl ?_
      refine j_iload_n C (D 9 rfl) rfl ?_
      refine j_puti C f_X11_69 (lit (kd := 11) (n := 12) rfl) rfl rfl (D 10 rfl) ?_
      refine j_iload_n C (D 11 rfl) rfl ?_
      exact j_iret C P rfl (D 12 rfl) ⟨Nat.le_refl _, Nat.le_refl _⟩ ⟨by rw [a_end, if_pos hk], _, rfl, by
    rw [s_end, if_pos hk]
    obtain ⟨j, _, rfl, hj⟩ := i_nat hk.1
    exact ⟨by rw [up2_same]; show nI j = nI (tn (nI j)); rw [tn_n (by omega)], fun i hi => by
      rw [up2_i (by omega)]
      have hi : i < tn (nI j) := hi
      rw [tn_n (by omega)] at hi
      have := hk.2
      exact hT.2 i (by omega)⟩, fun b j q1 q2 => up2_i q2⟩
    · refine j_iconst C (v := (-1)) (D 6 rfl) rfl ?_
      exact j_iret C P rfl (D 7 rfl) ⟨Nat.le_refl _, Nat.le_refl _⟩ ⟨by rw [a_end, if_neg (fun z => h9 (i_le.mpr (by rw [nI_int (by omega)]; exact z.2)))], I, rfl, by rw [s_end, if_neg (fun z => h9 (i_le.mpr (by rw [nI_int (by omega)]; exact z.2)))]; exact hT, fun _ _ _ _ => rfl⟩
set_option maxRecDepth 20000 in
theorem d_endQ (l : Launch) (G : GT) {I : Nat → Nat → Int32} {L : Nat → Nat → Int64} {R : Nat → Nat → Option Nat} (hL : Lay R) (b : BT) (hb : b.1 ≤ 1200) (hT : TP I 172 27 187 b) (k : Int32) : Mt l G mX12_end (1) 0 0 [.ref (ra G 172), .int k] (wd I L R) (fun r w' => r = some (.int (a_end b k)) ∧ ∃ I', w' = wd I' L R ∧ TP I' 172 27 187 (s_end b k) ∧ FrT 172 27 187 I I') := by
  refine mt_of (own := RX12) (by decide) rfl rfl (fun Z C P B => ?_)
  have D := @dc_of _ _ dX12_end
  refine j_iload_n C (D 0 rfl) rfl ?_
  refine j_i2l C (D 1 rfl) ?_
  refine j_lconst C (v := 0) (D 2 rfl) rfl ?_
  refine j_aload_n C (D 3 rfl) rfl ?_
  refine j_geti C f_X12_92 (lit (kd := 12) (n := 48) rfl) rfl rfl (D 4 rfl) ?_
  rw [hT.1]
  refine j_i2l C (D 5 rfl) ?_
  have hkk : ((0 : Int64).toInt ≤ k.toInt64.toInt ∧ k.toInt64.toInt ≤ (nI b.1).toInt64.toInt) ↔ (0 ≤ k.toInt ∧ k.toInt ≤ b.1) := by rw [i_l, i_l, nI_int (by omega)]; rfl
  refine j_cSp C B k_X12_99 (d_in _ _ _ _ _ _) rfl rfl rfl rfl ⟨Nat.le_refl _, Nat.le_refl _⟩ (D 6 rfl) ?_
  refine j_if_ne C  16 (D 7 rfl) (by decide) (fun h11 => ?_) (fun h11 => ?_)
  · have hk : 0 ≤ k.toInt ∧ k.toInt ≤ b.1 := hkk.mp (b2_ne h11)
    refine j_aload_n C (D 10 rfl) rfl ?_
    refine j_iload_n C (D 11 rfl) rfl ?_
    refine j_puti C f_X12_92 (lit (kd := 12) (n := 48) rfl) rfl rfl (D 12 rfl) ?_
    refine j_iload_n C (D 13 rfl) rfl ?_
    exact j_iret C P rfl (D 14 rfl) ⟨Nat.le_refl _, Nat.le_refl _⟩ ⟨by rw [a_end, if_pos hk], _, rfl, by
    rw [s_end, if_pos hk]
    obtain ⟨j, _, rfl, hj⟩ := i_nat hk.1
    exact ⟨by rw [up2_same]; show nI j = nI (tn (nI j)); rw [tn_n (by omega)], fun i hi => by
      rw [up2_i (by omega)]
      have hi : i < tn (nI j) := hi
      rw [tn_n (by omega)] at hi
      have := hk.2
      exact hT.2 i (by omega)⟩, fun b j q1 q2 => up2_i q2⟩
  · refine j_iconst C (v := (-1)) (D 8 rfl) rfl ?_
    exact j_iret C P rfl (D 9 rfl) ⟨Nat.le_refl _, Nat.le_refl _⟩ ⟨by rw [a_end, if_neg (fun z => b2_eq h11 (hkk.mpr z))], I, rfl, by rw [s_end, if_neg (fun z => b2_eq h11 (hkk.mpr z))]; exact hT, fun _ _ _ _ => rfl⟩

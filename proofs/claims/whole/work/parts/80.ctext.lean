set_option maxRecDepth 20000 in
theorem c_readLine (l : Launch) (G : GT) {c : Nat} (hc : isC c) {I : Nat → Nat → Int32} {L : Nat → Nat → Int64} {R : Nat → Nat → Option Nat} (hL : Lay R) {T : Nat → TK} {N i : Nat} {V : VT} (hN : TN T N) (hP : LPr I R T N c V i) (tt : Bool) (htt : I 4 7 = b2 (tt = true)) : Mt l G mX4_readLine (32) 0 0 [.ref (ra G 4)] (wd I L R) (PX I L R (lP0 c) (lP1 c) (lO c) (pLn0 T V tt i)) := by
  refine mt_of (own := RX4) (by decide) rfl rfl (fun Z C P B => ?_)
  have D := @dc_of _ _ dX4_readLine
  have hr3 := hP.2.1
  have hcr := isC_rng hc
  have hN1 := hN.1
  have hi1 := hP.1.2.2
  have hT := hP.2.2.1
  have hV := hP.2.2.2.1
  have hE10 := hV.1
  have hA8 := hV.2.1
  have hB4 := hV.2.2.1
  refine j_aload_n C (D 0 rfl) rfl ?_
  refine j_gsgn C (i := 0) (by decide) s_X4_114 (D 1 rfl) ?_
  refine j_cVp C B k_X4_52 (rc_obj C (lit (kd := 4) (n := 8) rfl) rfl rfl) (c_sees _ _ hL hN hP.1 (by decide)) rfl rfl rfl rfl ⟨Nat.le_refl _, Nat.le_refl _⟩ (D 2 rfl) ?_
  refine j_if_eq C  35 (D 3 rfl) (by decide) (fun h7 => ?_) (fun h7 => ?_)
  · refine j_aload_n C (D 16 rfl) rfl ?_
    refine j_gsgn C (i := 10) (by decide) s_X4_120 (D 17 rfl) ?_
    refine j_cVp C B k_X4_52 (rc_obj C (lit (kd := 4) (n := 8) rfl) rfl rfl) (c_sees _ _ hL hN hP.1 (by decide)) rfl rfl rfl rfl ⟨Nat.le_refl _, Nat.le_refl _⟩ (D 18 rfl) ?_
    refine j_if_eq C  65 (D 19 rfl) (by decide) (fun h42 => ?_) (fun h42 => ?_)
    · refine j_aload_n C (D 30 rfl) rfl ?_
      refine j_gsgn C (i := 14) (by decide) s_X4_126 (D 31 rfl) ?_
      refine j_cVp C B k_X4_52 (rc_obj C (lit (kd := 4) (n := 8) rfl) rfl rfl) (c_sees _ _ hL hN hP.1 (by decide)) rfl rfl rfl rfl ⟨Nat.le_refl _, Nat.le_refl _⟩ (D 32 rfl) ?_
      refine j_if_eq C  102 (D 33 rfl) (by decide) (fun h72 => ?_) (fun h72 => ?_)
      · refine j_aload_n C (D 47 rfl) rfl ?_
        refine j_gsgn C (i := 16) (by decide) s_X4_139 (D 48 rfl) ?_
        refine j_cVp C B k_X4_52 (rc_obj C (lit (kd := 4) (n := 8) rfl) rfl rfl) (c_sees _ _ hL hN hP.1 (by decide)) rfl rfl rfl rfl ⟨Nat.le_refl _, Nat.le_refl _⟩ (D 49 rfl) ?_
        refine j_if_eq C  137 (D 50 rfl) (by decide) (fun h109 => ?_) (fun h109 => ?_)
        · refine j_aload_n C (D 63 rfl) rfl ?_
          refine j_gsgn C (i := 17) (by decide) s_X4_145 (D 64 rfl) ?_
          refine j_cVp C B k_X4_52 (rc_obj C (lit (kd := 4) (n := 8) rfl) rfl rfl) (c_sees _ _ hL hN hP.1 (by decide)) rfl rfl rfl rfl ⟨Nat.le_refl _, Nat.le_refl _⟩ (D 65 rfl) ?_
          refine j_if_eq C  152 (D 66 rfl) (by decide) (fun h144 => ?_) (fun h144 => ?_)
          · refine j_aload_n C (D 70 rfl) rfl ?_
            refine j_gsgn C (i := 18) (by decide) s_X4_151 (D 71 rfl) ?_
            refine j_cVp C B k_X4_52 (rc_obj C (lit (kd := 4) (n := 8) rfl) rfl rfl) (c_sees _ _ hL hN hP.1 (by decide)) rfl rfl rfl rfl ⟨Nat.le_refl _, Nat.le_refl _⟩ (D 72 rfl) ?_
            refine j_if_eq C  169 (D 73 rfl) (by decide) (fun h159 => ?_) (fun h159 => ?_)
            · refine j_aload_n C (D 77 rfl) rfl ?_
              refine j_iconst C (v := nI 1) (D 78 rfl) rfl ?_
              refine j_callV C B k_X4_80 (rc_obj C (lit (kd := 4) (n := 8) rfl) rfl rfl) (c_refuse _ _ hL hN hP.1 1) rfl rfl rfl rfl ⟨Nat.le_refl _, Nat.le_refl _⟩ (D 79 rfl) ?_
              rintro r w' ⟨rfl, rfl⟩
              exact j_zret C P rfl (by first | exact Or.inl rfl | exact Or.inr rfl | exact isB_ok _) (D 80 rfl) ⟨Nat.le_refl _, Nat.le_refl _⟩ (PX_e (e := fl T i 1) (by unfold pLn0; rw [if_neg (b2_eq h7), if_neg (b2_eq h42), if_neg (b2_eq h72), if_neg (b2_eq h109), if_neg (b2_eq h144), if_neg (b2_eq h159)]) flt0 (up2_same _ _ _ _) (Fx.up (Fx.up (Fx.rf _ _) (Or.inl ⟨rfl, by omega⟩)) (Or.inl ⟨rfl, by omega⟩)))
            · have hlt := lt_sg hN hi1 (b2_ne h159) (by decide)
              refine j_aload_n C (D 74 rfl) rfl ?_
              refine j_callV C B k_X4_154 (rc_obj C (lit (kd := 4) (n := 8) rfl) rfl rfl) (c_readGain _ _ hc hL hN hP tt htt hlt) rfl rfl rfl rfl ⟨Nat.le_refl _, Nat.le_refl _⟩ (D 75 rfl) ?_
              rintro r w' ⟨rfl, I2, rfl, k0, k1⟩
              refine j_goto C 174 (D 76 rfl) (by decide) ?_
              exact j_zret C P rfl (by first | exact Or.inl rfl | exact Or.inr rfl | exact isB_ok _) (D 80 rfl) ⟨Nat.le_refl _, Nat.le_refl _⟩ (by rw [show pLn0 T V tt i = pGn T V tt i from by unfold pLn0; rw [if_neg (b2_eq h7), if_neg (b2_eq h42), if_neg (b2_eq h72), if_neg (b2_eq h109), if_neg (b2_eq h144), if_pos (b2_ne h159)]]; exact PX_t k0 k1 (Fx.rf _ _) (lP01 c) (fun a h _ => h))
          · have hlt := lt_sg hN hi1 (b2_ne h144) (by decide)
            refine j_aload_n C (D 67 rfl) rfl ?_
            refine j_callV C B k_X4_148 (rc_obj C (lit (kd := 4) (n := 8) rfl) rfl rfl) (c_readMark _ _ hc hL hN hP tt htt hlt) rfl rfl rfl rfl ⟨Nat.le_refl _, Nat.le_refl _⟩ (D 68 rfl) ?_
            rintro r w' ⟨rfl, I2, rfl, k0, k1⟩
            exact j_zret C P rfl (by first | exact Or.inl rfl | exact Or.inr rfl | exact isB_ok _) (D 69 rfl) ⟨Nat.le_refl _, Nat.le_refl _⟩ (by rw [show pLn0 T V tt i = pMk T V tt i from by unfold pLn0; rw [if_neg (b2_eq h7), if_neg (b2_eq h42), if_neg (b2_eq h72), if_neg (b2_eq h109), if_pos (b2_ne h144)]]; exact PX_t k0 k1 (Fx.rf _ _) (lP01 c) (fun a h _ => h))
        · have hlt := lt_sg hN hi1 (b2_ne h109) (by decide)
          refine j_aload_n C (D 51 rfl) rfl ?_
          refine j_getr C f_X4_25 (lit (kd := 4) (n := 8) rfl) rfl rfl hr3 (D 52 rfl) ?_
          refine j_geti C f_X4_97 (sC0 hc) rfl rfl (D 53 rfl) ?_
          rw [hT.2.1]
          refine j_bipush C (v := nI 8) (D 54 rfl) rfl ?_
          refine j_icmp_ge C  131 (D 55 rfl) (by decide) (fun h121 => ?_) (fun h121 => ?_)
          · have he : ¬ vA V < 8 := by rw [nle (by omega) (by omega)] at h121; omega
            refine j_aload_n C (D 59 rfl) rfl ?_
            refine j_iconst C (v := nI 4) (D 60 rfl) rfl ?_
            refine j_callV C B k_X4_80 (rc_obj C (lit (kd := 4) (n := 8) rfl) rfl rfl) (c_refuse _ _ hL hN hP.1 4) rfl rfl rfl rfl ⟨Nat.le_refl _, Nat.le_refl _⟩ (D 61 rfl) ?_
            rintro r w' ⟨rfl, rfl⟩
            exact j_zret C P rfl (by first | exact Or.inl rfl | exact Or.inr rfl | exact isB_ok _) (D 62 rfl) ⟨Nat.le_refl _, Nat.le_refl _⟩ (PX_e (e := fl T i 4) (by unfold pLn0; rw [if_neg (b2_eq h7), if_neg (b2_eq h42), if_neg (b2_eq h72), if_pos (b2_ne h109), if_neg he]) flt0 (up2_same _ _ _ _) (Fx.up (Fx.up (Fx.rf _ _) (Or.inl ⟨rfl, by omega⟩)) (Or.inl ⟨rfl, by omega⟩)))
          · have he : vA V < 8 := by rw [nle (by omega) (by omega)] at h121; omega
            refine j_aload_n C (D 56 rfl) rfl ?_
            refine j_callV C B k_X4_142 (rc_obj C (lit (kd := 4) (n := 8) rfl) rfl rfl) (c_readAthlete _ _ hc hL hN hP tt htt hlt he) rfl rfl rfl rfl ⟨Nat.le_refl _, Nat.le_refl _⟩ (D 57 rfl) ?_
            rintro r w' ⟨rfl, I2, rfl, k0, k1⟩
            refine j_goto C 136 (D 58 rfl) (by decide) ?_
            exact j_zret C P rfl (by first | exact Or.inl rfl | exact Or.inr rfl | exact isB_ok _) (D 62 rfl) ⟨Nat.le_refl _, Nat.le_refl _⟩ (by rw [show pLn0 T V tt i = .inr ((atV V, tt), i + 1) from by unfold pLn0; rw [if_neg (b2_eq h7), if_neg (b2_eq h42), if_neg (b2_eq h72), if_pos (b2_ne h109), if_pos he]]; exact PX_t k0 k1 (Fx.rf _ _) (lP01 c) (fun a h _ => h))
      · have hlt := lt_sg hN hi1 (b2_ne h72) (by decide)
        refine j_aload_n C (D 34 rfl) rfl ?_
        refine j_getr C f_X4_25 (lit (kd := 4) (n := 8) rfl) rfl rfl hr3 (D 35 rfl) ?_
        refine j_getr C f_X4_129 (sC0 hc) rfl rfl (hL _ _ _ (rC4 hc)) (D 36 rfl) ?_
        refine j_geti C f_X4_133 (sC5 hc) rfl rfl (D 37 rfl) ?_
        rw [hT.2.2.2.1]
        refine j_iconst C (v := nI 4) (D 38 rfl) rfl ?_
        refine j_icmp_ge C  96 (D 39 rfl) (by decide) (fun h86 => ?_) (fun h86 => ?_)
        · have he : ¬ vB V < 4 := by rw [nle (by omega) (by omega)] at h86; omega
          refine j_aload_n C (D 43 rfl) rfl ?_
          refine j_iconst C (v := nI 4) (D 44 rfl) rfl ?_
          refine j_callV C B k_X4_80 (rc_obj C (lit (kd := 4) (n := 8) rfl) rfl rfl) (c_refuse _ _ hL hN hP.1 4) rfl rfl rfl rfl ⟨Nat.le_refl _, Nat.le_refl _⟩ (D 45 rfl) ?_
          rintro r w' ⟨rfl, rfl⟩
          exact j_zret C P rfl (by first | exact Or.inl rfl | exact Or.inr rfl | exact isB_ok _) (D 46 rfl) ⟨Nat.le_refl _, Nat.le_refl _⟩ (PX_e (e := fl T i 4) (by unfold pLn0; rw [if_neg (b2_eq h7), if_neg (b2_eq h42), if_pos (b2_ne h72), if_neg he]) flt0 (up2_same _ _ _ _) (Fx.up (Fx.up (Fx.rf _ _) (Or.inl ⟨rfl, by omega⟩)) (Or.inl ⟨rfl, by omega⟩)))
        · have he : vB V < 4 := by rw [nle (by omega) (by omega)] at h86; omega
          refine j_aload_n C (D 40 rfl) rfl ?_
          refine j_callV C B k_X4_136 (rc_obj C (lit (kd := 4) (n := 8) rfl) rfl rfl) (c_readBonus _ _ hc hL hN hP tt htt hlt he) rfl rfl rfl rfl ⟨Nat.le_refl _, Nat.le_refl _⟩ (D 41 rfl) ?_
          rintro r w' ⟨rfl, I2, rfl, k0, k1⟩
          refine j_goto C 101 (D 42 rfl) (by decide) ?_
          exact j_zret C P rfl (by first | exact Or.inl rfl | exact Or.inr rfl | exact isB_ok _) (D 46 rfl) ⟨Nat.le_refl _, Nat.le_refl _⟩ (by rw [show pLn0 T V tt i = pBon T V tt i from by unfold pLn0; rw [if_neg (b2_eq h7), if_neg (b2_eq h42), if_pos (b2_ne h72), if_pos he]]; exact PX_t k0 k1 (Fx.rf _ _) (lP01 c) (fun a h _ => h))
    · have hlt := lt_sg hN hi1 (b2_ne h42) (by decide)
      refine j_aload_n C (D 20 rfl) rfl ?_
      refine j_geti C f_X4_39 (lit (kd := 4) (n := 8) rfl) rfl rfl (D 21 rfl) ?_
      rw [htt]
      refine j_if_eq C  60 (D 22 rfl) (by decide) (fun h49 => ?_) (fun h49 => ?_)
      · have he : ¬ tt = true := b2_eq h49
        refine j_aload_n C (D 27 rfl) rfl ?_
        refine j_callV C B k_X4_123 (rc_obj C (lit (kd := 4) (n := 8) rfl) rfl rfl) (c_readTie _ _ hc hL hN hP hlt) rfl rfl rfl rfl ⟨Nat.le_refl _, Nat.le_refl _⟩ (D 28 rfl) ?_
        rintro r w' ⟨rfl, I2, rfl, k0, k1⟩
        exact j_zret C P rfl (by first | exact Or.inl rfl | exact Or.inr rfl | exact isB_ok _) (D 29 rfl) ⟨Nat.le_refl _, Nat.le_refl _⟩ (by rw [show pLn0 T V tt i = pTie T V i from by unfold pLn0; rw [if_neg (b2_eq h7), if_pos (b2_ne h42), if_neg he]]; exact PX_t k0 k1 (Fx.rf _ _) (lP01 c) (fun a h _ => h))
      · have he : tt = true := b2_ne h49
        refine j_aload_n C (D 23 rfl) rfl ?_
        refine j_iconst C (v := nI 3) (D 24 rfl) rfl ?_
        refine j_callV C B k_X4_80 (rc_obj C (lit (kd := 4) (n := 8) rfl) rfl rfl) (c_refuse _ _ hL hN hP.1 3) rfl rfl rfl rfl ⟨Nat.le_refl _, Nat.le_refl _⟩ (D 25 rfl) ?_
        rintro r w' ⟨rfl, rfl⟩
        refine j_goto C 64 (D 26 rfl) (by decide) ?_
        exact j_zret C P rfl (by first | exact Or.inl rfl | exact Or.inr rfl | exact isB_ok _) (D 29 rfl) ⟨Nat.le_refl _, Nat.le_refl _⟩ (PX_e (e := fl T i 3) (by unfold pLn0; rw [if_neg (b2_eq h7), if_pos (b2_ne h42), if_pos he]) flt0 (up2_same _ _ _ _) (Fx.up (Fx.up (Fx.rf _ _) (Or.inl ⟨rfl, by omega⟩)) (Or.inl ⟨rfl, by omega⟩)))
  · have hlt := lt_sg hN hi1 (b2_ne h7) (by decide)
    refine j_aload_n C (D 4 rfl) rfl ?_
    refine j_getr C f_X4_25 (lit (kd := 4) (n := 8) rfl) rfl rfl hr3 (D 5 rfl) ?_
    refine j_geti C f_X4_104 (sC0 hc) rfl rfl (D 6 rfl) ?_
    rw [hT.1]
    refine j_bipush C (v := nI 10) (D 7 rfl) rfl ?_
    refine j_icmp_ge C  29 (D 8 rfl) (by decide) (fun h19 => ?_) (fun h19 => ?_)
    · have he : ¬ vE V < 10 := by rw [nle (by omega) (by omega)] at h19; omega
      refine j_aload_n C (D 12 rfl) rfl ?_
      refine j_iconst C (v := nI 4) (D 13 rfl) rfl ?_
      refine j_callV C B k_X4_80 (rc_obj C (lit (kd := 4) (n := 8) rfl) rfl rfl) (c_refuse _ _ hL hN hP.1 4) rfl rfl rfl rfl ⟨Nat.le_refl _, Nat.le_refl _⟩ (D 14 rfl) ?_
      rintro r w' ⟨rfl, rfl⟩
      exact j_zret C P rfl (by first | exact Or.inl rfl | exact Or.inr rfl | exact isB_ok _) (D 15 rfl) ⟨Nat.le_refl _, Nat.le_refl _⟩ (PX_e (e := fl T i 4) (by unfold pLn0; rw [if_pos (b2_ne h7), if_neg he]) flt0 (up2_same _ _ _ _) (Fx.up (Fx.up (Fx.rf _ _) (Or.inl ⟨rfl, by omega⟩)) (Or.inl ⟨rfl, by omega⟩)))
    · have he : vE V < 10 := by rw [nle (by omega) (by omega)] at h19; omega
      refine j_aload_n C (D 9 rfl) rfl ?_
      refine j_callV C B k_X4_117 (rc_obj C (lit (kd := 4) (n := 8) rfl) rfl rfl) (c_readEvent _ _ hc hL hN hP tt htt hlt he) rfl rfl rfl rfl ⟨Nat.le_refl _, Nat.le_refl _⟩ (D 10 rfl) ?_
      rintro r w' ⟨rfl, I2, rfl, k0, k1⟩
      refine j_goto C 34 (D 11 rfl) (by decide) ?_
      exact j_zret C P rfl (by first | exact Or.inl rfl | exact Or.inr rfl | exact isB_ok _) (D 15 rfl) ⟨Nat.le_refl _, Nat.le_refl _⟩ (by rw [show pLn0 T V tt i = evR T V tt i from by unfold pLn0 evR; rw [if_pos (b2_ne h7), if_pos he]]; exact PX_t k0 k1 (Fx.rf _ _) (lP01 c) (fun a h _ => h))
set_option maxRecDepth 20000 in
theorem c_bclear (l : Launch) (G : GT) {c : Nat} (hc : isC c) {I : Nat → Nat → Int32} {L : Nat → Nat → Int64} {R : Nat → Nat → Option Nat} (hL : Lay R) : Mt l G mX0_clear (0) 0 0 [.ref (ra G (c + 5))] (wd I L R) (fun r w' => r = none ∧ w' = wd (up2 (up2 (up2 I (c + 5) 1 (nI 0)) (c + 5) 4 (nI 0)) (c + 5) 5 (nI 0)) L R) := by
  refine mt_of (own := RX0) (by decide) rfl rfl (fun Z C P B => ?_)
  have D := @dc_of _ _ dX0_clear
  refine j_aload_n C (D 0 rfl) rfl ?_
  refine j_iconst C (v := nI 0) (D 1 rfl) rfl ?_
  refine j_puti C f_X0_24 (sC5 hc) rfl rfl (D 2 rfl) ?_
  refine j_aload_n C (D 3 rfl) rfl ?_
  refine j_iconst C (v := nI 0) (D 4 rfl) rfl ?_
  refine j_puti C f_X0_28 (sC5 hc) rfl rfl (D 5 rfl) ?_
  refine j_aload_n C (D 6 rfl) rfl ?_
  refine j_iconst C (v := nI 0) (D 7 rfl) rfl ?_
  refine j_puti C f_X0_31 (sC5 hc) rfl rfl (D 8 rfl) ?_
  exact j_vret C P rfl (D 9 rfl) ⟨Nat.le_refl _, Nat.le_refl _⟩ ⟨rfl, rfl⟩
def clr (I : Nat → Nat → Int32) (c : Nat) : Nat → Nat → Int32 := up2 (up2 (up2 (up2 (up2 (up2 I c 5 (nI 0)) c 6 (nI 0)) c 7 (nI 0)) (c + 5) 1 (nI 0)) (c + 5) 4 (nI 0)) (c + 5) 5 (nI 0)
set_option maxRecDepth 20000 in
theorem c_cclear (l : Launch) (G : GT) {c : Nat} (hc : isC c) {I : Nat → Nat → Int32} {L : Nat → Nat → Int64} {R : Nat → Nat → Option Nat} (hL : Lay R) : Mt l G mX1_clear (1) 0 0 [.ref (ra G c)] (wd I L R) (fun r w' => r = none ∧ w' = wd (clr I c) L R) := by
  refine mt_of (own := RX1) (by decide) rfl rfl (fun Z C P B => ?_)
  have D := @dc_of _ _ dX1_clear
  refine j_aload_n C (D 0 rfl) rfl ?_
  refine j_iconst C (v := nI 0) (D 1 rfl) rfl ?_
  refine j_puti C f_X1_35 (sC0 hc) rfl rfl (D 2 rfl) ?_
  refine j_aload_n C (D 3 rfl) rfl ?_
  refine j_iconst C (v := nI 0) (D 4 rfl) rfl ?_
  refine j_puti C f_X1_39 (sC0 hc) rfl rfl (D 5 rfl) ?_
  refine j_aload_n C (D 6 rfl) rfl ?_
  refine j_iconst C (v := nI 0) (D 7 rfl) rfl ?_
  refine j_puti C f_X1_42 (sC0 hc) rfl rfl (D 8 rfl) ?_
  refine j_aload_n C (D 9 rfl) rfl ?_
  refine j_getr C f_X1_30 (sC0 hc) rfl rfl (hL _ _ _ (rC4 hc)) (D 10 rfl) ?_
  refine j_callV C B k_X1_45 (rc_obj C (sC5 hc) rfl rfl) (c_bclear _ _ hc hL) rfl rfl rfl rfl ⟨Nat.le_refl _, Nat.le_refl _⟩ (D 11 rfl) ?_
  rintro r w' ⟨rfl, rfl⟩
  exact j_vret C P rfl (D 12 rfl) ⟨Nat.le_refl _, Nat.le_refl _⟩ ⟨rfl, rfl⟩
theorem clr_F {I : Nat → Nat → Int32} {c : Nat} : Fx (lP0 c) I (clr I c) := Fx.up (Fx.up (Fx.up (Fx.up (Fx.up (Fx.up (Fx.rf _ _) (Or.inr (by omega))) (Or.inr (by omega))) (Or.inr (by omega))) (Or.inr (by omega))) (Or.inr (by omega))) (Or.inr (by omega))
theorem CT_clr {I : Nat → Nat → Int32} {c : Nat} (h0 : I (c + 7) 0 = nI 0) : CT (clr I c) c V0 := by
  refine ⟨?_, ?_, ?_, ?_, fun e he => ?_, fun b e hb he => ?_, fun k hk => ?_, fun k hk => ?_, fun k hk x q hq => ?_, ?_, ?_⟩
  · unfold clr; rw [up2_i (by omega), up2_i (by omega), up2_i (by omega), up2_i (by omega), up2_i (by omega), up2_same]; rfl
  · unfold clr; rw [up2_i (by omega), up2_i (by omega), up2_i (by omega), up2_i (by omega), up2_same]; rfl
  · unfold clr; rw [up2_i (by omega), up2_i (by omega), up2_i (by omega), up2_same]; rfl
  · unfold clr; rw [up2_i (by omega), up2_i (by omega), up2_same]; rfl
  · exact absurd (show e < 0 from he) (by omega)
  · exact absurd (show b < 0 from hb) (by omega)
  · exact absurd (show k < 0 from hk) (by omega)
  · have hk : k ≤ 0 := hk
    rw [show k = 0 by omega]
    unfold clr
    rw [up2_i (by omega), up2_i (by omega), up2_i (by omega), up2_i (by omega), up2_i (by omega), up2_i (by omega)]
    exact h0
  · exact absurd (show k < 0 from hk) (by omega)
  · unfold clr; rw [up2_i (by omega), up2_same]; rfl
  · unfold clr; rw [up2_same]; rfl
theorem WV_0 : WV V0 := ⟨by decide, by decide, by decide, Or.inl rfl, fun e he => absurd (show e < 0 from he) (by omega), fun a e ha => absurd (show a < 0 from ha) (by omega), fun k hk => absurd (show k < 0 from hk) (by omega), by decide⟩
theorem TN_tok {f : Nat → Int32} {n N : Nat} (hn : n ≤ 1200) (h : NT f n N) : TN (tok f n) N := ⟨by have := NT_le h; omega, fun j hj => NT_end h hj, fun j => tok_lt f n j⟩
/-- what a text comes to -/
def pTxt (b : BT) : RS (Nat × VT) := pAll (tok b.2 b.1) 1200 V0 false 0 0
def aTx : RS (Nat × VT) → Int32
  | .inl _ => -4
  | .inr x => nI x.1
def rA (c b j : Nat) : Prop := b = 4 ∨ b = 5 ∨ b = 7 ∨ b = 8 ∨ (c ≤ b ∧ b < c + 40 ∧ ¬ (b = c + 7 ∧ j = 0))
/-- behind readAll -/
def raP (I : Nat → Nat → Int32) (L : Nat → Nat → Int64) (R : Nat → Nat → Option Nat) (c : Nat) (res : RS (Nat × VT)) : Option Value → Wd → Prop := fun r w' => r = some (.int (aTx res)) ∧ ∃ I' R', w' = wd I' L R' ∧ (∀ b j, ¬ b = 6 → R' b j = R b j) ∧ Fx (rA c) I I' ∧ (∀ e, res = .inl e → I' 4 0 = nI e.1 ∧ I' 4 1 = nI e.2) ∧ (∀ x, res = .inr x → CT I' c x.2 ∧ WV x.2 ∧ x.1 ≤ 1200 ∧ I' 4 0 = nI 0 ∧ I' 4 1 = -1)
theorem raP_e {I I' : Nat → Nat → Int32} {L : Nat → Nat → Int64} {R R' : Nat → Nat → Option Nat} {c : Nat} {res : RS (Nat × VT)} {e : Nat × Nat} (h : res = .inl e) (hR : ∀ b j, ¬ b = 6 → R' b j = R b j) (h0 : I' 4 0 = nI e.1) (h1 : I' 4 1 = nI e.2) (hF : Fx (rA c) I I') : raP I L R c res (some (.int (-4))) (wd I' L R') := by
  subst h
  exact ⟨rfl, I', R', rfl, hR, hF, fun e' he => by cases he; exact ⟨h0, h1⟩, fun a ha => by cases ha⟩
theorem raP_o {I I' : Nat → Nat → Int32} {L : Nat → Nat → Int64} {R R' : Nat → Nat → Option Nat} {c : Nat} {res : RS (Nat × VT)} {ln : Nat} {V : VT} (h : res = .inr (ln, V)) (hR : ∀ b j, ¬ b = 6 → R' b j = R b j) (hT : CT I' c V) (hW : WV V) (hl : ln ≤ 1200) (h0 : I' 4 0 = nI 0) (h1 : I' 4 1 = -1) (hF : Fx (rA c) I I') : raP I L R c res (some (.int (nI ln))) (wd I' L R') := by
  subst h
  exact ⟨rfl, I', R', rfl, hR, hF, fun e' he => (by cases he), fun a ha => by cases ha; exact ⟨hT, hW, hl, h0, h1⟩⟩
theorem lP0A (c b j : Nat) (h : lP0 c b j) : rA c b j := by unfold lP0 at h; unfold rA; omega
theorem lP1A (c b j : Nat) (h : lP1 c b j) : rA c b j := by unfold lP1 at h; unfold rA; omega
theorem rP0A (c b j : Nat) (h : rP0 b j) : rA c b j := Or.inl h.1
theorem rP1A (c b j : Nat) (h : rP1 b j) : rA c b j := Or.inl h.1
set_option maxRecDepth 20000 in
theorem c_readAll (l : Launch) (G : GT) {c : Nat} (hc : isC c) {I : Nat → Nat → Int32} {L : Nat → Nat → Int64} {R : Nat → Nat → Option Nat} (hL : Lay R) (f : Nat → Int32) (n : Nat) (hn : n ≤ 1200) (hf : ∀ j, j < n → I 1 j = f j) (hr3 : R 4 3 = some c) (hz : I (c + 7) 0 = nI 0) : Mt l G mX4_readAll (33) 0 0 [.ref (ra G 4), .ref (ra G 1), .int (nI n)] (wd I L R) (raP I L R c (pAll (tok f n) 1200 V0 false 0 0)) := by
  refine mt_of (own := RX4) (by decide) rfl rfl (fun Z C P B => ?_)
  have D := @dc_of _ _ dX4_readAll
  have hcr := isC_rng hc
  refine j_aload_n C (D 0 rfl) rfl ?_
  refine j_getr C f_X4_18 (lit (kd := 4) (n := 8) rfl) rfl rfl (hL _ _ _ rfl) (D 1 rfl) ?_
  refine j_aload_n C (D 2 rfl) rfl ?_
  refine j_iload_n C (D 3 rfl) rfl ?_
  refine j_callV C B k_X4_29 (rc_obj C (lit (kd := 9) (n := 5) rfl) rfl rfl) (c_split _ _ hL f n hn hf) rfl rfl rfl rfl ⟨Nat.le_refl _, Nat.le_refl _⟩ (D 4 rfl) ?_
  rintro r w' ⟨rfl, I1, R1, N, rfl, hNT, hK, hFK, hR1⟩
  have hL1 := Lay_6 hL hR1
  have hN := TN_tok hn hNT
  have hr3 : R1 4 3 = some c := by rw [hR1 _ _ (by omega)]; exact hr3
  have L1 : ∀ mm ln V tt i (I1 : Nat → Nat → Int32), ln + mm = 1200 → LPr I1 R1 (tok f n) N c V i → I1 4 7 = b2 (tt = true) → I1 4 0 = nI 0 → I1 4 1 = -1 → Fx (rA c) I I1 → pAll (tok f n) mm V tt ln i = pAll (tok f n) 1200 V0 false 0 0 → J Z (0, 0) 38 [some (.ref (ra G 4)), some (.ref (ra G 1)), some (.int (nI n)), some (.int (nI ln))] [] (wd I1 L R1) := by
    intro mm
    induction mm with
    | zero =>
      intro ln V tt i I1 hln hP htt hf0 hf1 hF he
      have hi1 := hP.1.2.2
      refine j_iload_n C (D 22 rfl) rfl ?_
      refine j_sipush C (v := nI 1200) (D 23 rfl) rfl ?_
      refine j_icmp_ge C  81 (D 24 rfl) (by decide) (fun h42 => ?_) (fun h42 => absurd h42 (fun z => z ((nle (by omega) (by omega)).mpr (by omega))))
      refine j_iload_n C (D 40 rfl) rfl ?_
      exact j_iret C P rfl (D 41 rfl) ⟨Nat.le_refl _, Nat.le_refl _⟩ (raP_o (ln := ln) (V := V) (by rw [← he, pAll]) hR1 hP.2.2.1 hP.2.2.2.1 (by omega) hf0 hf1 hF)
    | succ mm ih =>
      intro ln V tt i I1 hln hP htt hf0 hf1 hF he
      have hi1 := hP.1.2.2
      refine j_iload_n C (D 22 rfl) rfl ?_
      refine j_sipush C (v := nI 1200) (D 23 rfl) rfl ?_
      refine j_icmp_ge C  81 (D 24 rfl) (by decide) (fun h42 => absurd h42 (fun z => by rw [nle (by omega) (by omega)] at z; omega)) (fun h42 => ?_)
      refine j_aload_n C (D 25 rfl) rfl ?_
      refine j_gsgn C (i := 41) (by decide) s_X4_46 (D 26 rfl) ?_
      refine j_cVp C B k_X4_52 (rc_obj C (lit (kd := 4) (n := 8) rfl) rfl rfl) (c_sees _ _ hL1 hN hP.1 (by decide)) rfl rfl rfl rfl ⟨Nat.le_refl _, Nat.le_refl _⟩ (D 27 rfl) ?_
      refine j_if_ne C  81 (D 28 rfl) (by decide) (fun h52 => ?_) (fun h52 => ?_)
      · refine j_iload_n C (D 40 rfl) rfl ?_
        exact j_iret C P rfl (D 41 rfl) ⟨Nat.le_refl _, Nat.le_refl _⟩ (raP_o (ln := ln) (V := V) (by rw [← he, pAll, if_pos (b2_ne h52)]) hR1 hP.2.2.1 hP.2.2.2.1 (by omega) hf0 hf1 hF)
      · have hlt : i < N := lt_of_T hN.2.1 hi1 (b2_eq h52)
        refine j_aload_n C (D 29 rfl) rfl ?_
        refine j_callV C B k_X4_56 (rc_obj C (lit (kd := 4) (n := 8) rfl) rfl rfl) (c_readLine _ _ hc hL1 hN hP tt htt) rfl rfl rfl rfl ⟨Nat.le_refl _, Nat.le_refl _⟩ (D 30 rfl) ?_
        rintro r w' ⟨rfl, I2, rfl, k0, k1⟩
        refine j_if_eq C  72 (D 31 rfl) (by decide) (fun h59 => ?_) (fun h59 => ?_)
        · obtain ⟨e, hq⟩ := okB_eq h59
          obtain ⟨z0, z1, z2⟩ := k0 e hq
          refine j_bipush C (v := (-4)) (D 36 rfl) rfl ?_
          exact j_iret C P rfl (D 37 rfl) ⟨Nat.le_refl _, Nat.le_refl _⟩ (raP_e (e := e) (by rw [← he, pAll, if_neg (b2_eq h52)]; unfold pLn; rw [hq, bnd_l, bnd_l]) hR1 z0 z1 (hF.tr (z2.mo (lP1A c))))
        · obtain ⟨⟨⟨V2, t2⟩, j⟩, hq⟩ := okB_ne h59
          obtain ⟨⟨z0, zT, zt⟩, zF⟩ := k1 _ hq
          have z0 : I2 4 4 = nI j := z0
          have zT : CT I2 c V2 := zT
          have zt : I2 4 7 = b2 (t2 = true) := zt
          obtain ⟨a1, a2, a3⟩ := pLn0_go hN hlt hP.2.2.2 hq
          have hS2 := SE_go hP.1 zF (fun b k z => by unfold lP0 at z; omega) z0 a3
          refine j_aload_n C (D 32 rfl) rfl ?_
          refine j_gsgn C (i := 27) (by decide) s_X4_60 (D 33 rfl) ?_
          refine j_callV C B k_X4_63 (rc_obj C (lit (kd := 4) (n := 8) rfl) rfl rfl) (c_take _ _ hL1 hN hS2 (by decide)) rfl rfl rfl rfl ⟨Nat.le_refl _, Nat.le_refl _⟩ (D 34 rfl) ?_
          rintro r w' ⟨rfl, I3, rfl, k2, k3⟩
          refine j_if_ne C  75 (D 35 rfl) (by decide) (fun h69 => ?_) (fun h69 => ?_)
          · obtain ⟨j2, hq2⟩ := okB_ne h69
            obtain ⟨x0, xF⟩ := k3 j2 hq2
            have x0 : I3 4 4 = nI j2 := x0
            obtain ⟨d1, d2⟩ := pTake_go hN a3 (by omega) hq2
            first | refine j_iinc1 C (D 38 rfl) rfl rfl ?_ | refine j_iinc C (D 38 rfl) rfl rfl rfl ?_
            refine j_goto C 38 (D 39 rfl) (by decide) ?_
            exact ih (ln + 1) V2 t2 j2 I3 (by omega) ⟨SE_go hS2 xF (fun b k z => by have := z.1; omega) x0 (by omega), hP.2.1, CT_r hc zT xF a1.1.1, a1.1, by have := a1.2; omega⟩ (by rw [xF _ _ (fun z => by unfold rP0 at z; omega)]; exact zt) (by rw [xF _ _ (fun z => by unfold rP0 at z; omega), zF _ _ (fun z => by unfold lP0 at z; omega)]; exact hf0) (by rw [xF _ _ (fun z => by unfold rP0 at z; omega), zF _ _ (fun z => by unfold lP0 at z; omega)]; exact hf1) ((hF.tr (zF.mo (lP0A c))).tr (xF.mo (rP0A c))) (by rw [← he, pAll, if_neg (b2_eq h52)]; unfold pLn; rw [hq, bnd_r, hq2, bnd_r, bnd_r])
          · obtain ⟨e2, hq2⟩ := okB_eq h69
            obtain ⟨x0, x1, x2⟩ := k2 e2 hq2
            refine j_bipush C (v := (-4)) (D 36 rfl) rfl ?_
            exact j_iret C P rfl (D 37 rfl) ⟨Nat.le_refl _, Nat.le_refl _⟩ (raP_e (e := e2) (by rw [← he, pAll, if_neg (b2_eq h52)]; unfold pLn; rw [hq, bnd_r, hq2, bnd_l, bnd_l]) hR1 x0 x1 ((hF.tr (zF.mo (lP0A c))).tr (x2.mo (rP1A c))))
  refine j_aload_n C (D 5 rfl) rfl ?_
  refine j_getr C f_X4_25 (lit (kd := 4) (n := 8) rfl) rfl rfl hr3 (D 6 rfl) ?_
  refine j_callV C B k_X4_33 (rc_obj C (sC0 hc) rfl rfl) (c_cclear _ _ hc hL1) rfl rfl rfl rfl ⟨Nat.le_refl _, Nat.le_refl _⟩ (D 7 rfl) ?_
  rintro r w' ⟨rfl, rfl⟩
  refine j_aload_n C (D 8 rfl) rfl ?_
  refine j_iconst C (v := nI 0) (D 9 rfl) rfl ?_
  refine j_puti C f_X4_36 (lit (kd := 4) (n := 8) rfl) rfl rfl (D 10 rfl) ?_
  refine j_aload_n C (D 11 rfl) rfl ?_
  refine j_iconst C (v := nI 0) (D 12 rfl) rfl ?_
  refine j_putz C f_X4_39 (lit (kd := 4) (n := 8) rfl) rfl rfl (D 13 rfl) (by first | exact Or.inl rfl | exact Or.inr rfl) ?_
  refine j_aload_n C (D 14 rfl) rfl ?_
  refine j_iconst C (v := nI 0) (D 15 rfl) rfl ?_
  refine j_puti C f_X4_43 (lit (kd := 4) (n := 8) rfl) rfl rfl (D 16 rfl) ?_
  refine j_aload_n C (D 17 rfl) rfl ?_
  refine j_iconst C (v := (-1)) (D 18 rfl) rfl ?_
  refine j_puti C f_X4_9 (lit (kd := 4) (n := 8) rfl) rfl rfl (D 19 rfl) ?_
  refine j_iconst C (v := nI 0) (D 20 rfl) rfl ?_
  refine j_istore_n C (D 21 rfl) rfl ?_
  have hF0 : Fx (rA c) I I1 := fun b j h => hFK b j (fun z => h (Or.inr (Or.inl z.1))) (fun z => h (Or.inr (Or.inr (Or.inl z)))) (fun z => h (Or.inr (Or.inr (Or.inr (Or.inl z)))))
  have hF2 : Fx (rA c) I (up2 (up2 (up2 (up2 (clr I1 c) 4 4 (nI 0)) 4 7 (nI 0)) 4 0 (nI 0)) 4 1 (-1)) := Fx.up (Fx.up (Fx.up (Fx.up (hF0.tr (clr_F.mo (lP0A c))) (Or.inl rfl)) (Or.inl rfl)) (Or.inl rfl)) (Or.inl rfl)
  refine L1 1200 0 V0 false 0 _ rfl ⟨⟨⟨?_, fun x hx => ?_⟩, ?_, Nat.zero_le _⟩, hr3, ?_, WV_0, Nat.zero_le _⟩ ?_ ?_ ?_ hF2 rfl
  · rw [up2_i (by omega), up2_i (by omega), up2_i (by omega), up2_i (by omega), clr_F _ _ (fun z => by unfold lP0 at z; omega)]; exact hK.1
  · rw [up2_i (by omega), up2_i (by omega), up2_i (by omega), up2_i (by omega), up2_i (by omega), up2_i (by omega), up2_i (by omega), up2_i (by omega), clr_F _ _ (fun z => by unfold lP0 at z; omega), clr_F _ _ (fun z => by unfold lP0 at z; omega)]; exact hK.2 x hx
  · rw [up2_i (by omega), up2_i (by omega), up2_i (by omega), up2_same]
  · exact CT_of (CT_clr (I := I1) (by rw [hFK _ _ (by omega) (by omega) (by omega)]; exact hz)) (fun x k q1 q2 q3 => by rw [up2_i (by omega), up2_i (by omega), up2_i (by omega), up2_i (by omega)]) (by decide)
  · rw [up2_i (by omega), up2_i (by omega), up2_same]; rfl
  · rw [up2_i (by omega), up2_same]
  · rw [up2_same]
theorem Lay_up {R : Nat → Nat → Option Nat} {a k : Nat} {v : Option Nat} (h : Lay R) (hn : rfx a k = none) : Lay (up2 R a k v) := fun b j r hr => by
  rw [up2_r (fun z => by rw [z.1, z.2, hn] at hr; cases hr)]
  exact h b j r hr
def rBx (c b j : Nat) : Prop := rA c b j ∨ (b = 0 ∧ (j = 1 ∨ j = 6)) ∨ (b = 50 ∧ j = 4)
theorem rAB (c b j : Nat) (h : rA c b j) : rBx c b j := Or.inl h
theorem aTx_ne {res : RS (Nat × VT)} (h : ¬ aTx res = -4) : ∃ x, res = .inr x := by
  match res, h with
  | .inl e, h => exact absurd rfl h
  | .inr x, _ => exact ⟨x, rfl⟩
theorem aTx_eq {res : RS (Nat × VT)} (h : aTx res = -4) (hx : ∀ x, res = .inr x → x.1 ≤ 1200) : ∃ e, res = .inl e := by
  match res, h, hx with
  | .inl e, _, _ => exact ⟨e, rfl⟩
  | .inr x, h, hx =>
    have h1 := hx x rfl
    have h : nI x.1 = -4 := h
    rw [i_eq, nI_int (by omega)] at h
    exact absurd h (by show ¬ ((x.1 : Nat) : Int) = -4; omega)
def txP (I : Nat → Nat → Int32) (L : Nat → Nat → Int64) (R : Nat → Nat → Option Nat) (c c' : Nat) (res : RS (Nat × VT)) : Option Value → Wd → Prop := fun r w' => r = some (.int (aTx res)) ∧ ∃ I' R', w' = wd I' L R' ∧ I' 0 1 = nI 0 ∧ Fx (rBx c) I I' ∧
  (∀ e, res = .inl e → (∀ b j, ¬ b = 6 → R' b j = R b j) ∧ I' 4 0 = nI e.1 ∧ I' 4 1 = nI e.2 ∧ I' 0 6 = I 0 6 ∧ I' 50 4 = I 50 4) ∧
  (∀ x, res = .inr x → R' 0 5 = some c ∧ R' 4 3 = some c' ∧ (∀ b j, ¬ b = 6 → ¬ (b = 0 ∧ j = 5) → ¬ (b = 4 ∧ j = 3) → R' b j = R b j) ∧ CT I' c x.2 ∧ WV x.2 ∧ I' 4 0 = nI 0 ∧ I' 4 1 = -1 ∧ I' 0 6 = nI 1 ∧ I' 50 4 = nI 0)
set_option maxRecDepth 20000 in
theorem c_exchange (l : Launch) (G : GT) {c c2 : Nat} (hc : isC c) {I : Nat → Nat → Int32} {L : Nat → Nat → Int64} {R : Nat → Nat → Option Nat} (hL : Lay R) (hr3 : R 4 3 = some c) : Mt l G mX4_exchange (0) 0 0 [.ref (ra G 4), .ref (ra G c2)] (wd I L R) (fun r w' => r = some (.ref (ra G c)) ∧ w' = wd I L (up2 R 4 3 (some c2))) := by
  refine mt_of (own := RX4) (by decide) rfl rfl (fun Z C P B => ?_)
  have D := @dc_of _ _ dX4_exchange
  refine j_aload_n C (D 0 rfl) rfl ?_
  refine j_getr C f_X4_25 (lit (kd := 4) (n := 8) rfl) rfl rfl hr3 (D 1 rfl) ?_
  refine j_astore_n C (D 2 rfl) rfl ?_
  refine j_aload_n C (D 3 rfl) rfl ?_
  refine j_aload_n C (D 4 rfl) rfl ?_
  refine j_putr C f_X4_25 (lit (kd := 4) (n := 8) rfl) rfl rfl (D 5 rfl) ?_
  refine j_aload_n C (D 6 rfl) rfl ?_
  exact j_aret C P rfl (Or.inl ⟨_, rfl⟩) (D 7 rfl) ⟨Nat.le_refl _, Nat.le_refl _⟩ ⟨rfl, rfl⟩
set_option maxRecDepth 20000 in
theorem c_hclear (l : Launch) (G : GT) {I : Nat → Nat → Int32} {L : Nat → Nat → Int64} {R : Nat → Nat → Option Nat} (hL : Lay R) : Mt l G mX2_clear (0) 0 0 [.ref (ra G 50)] (wd I L R) (fun r w' => r = none ∧ w' = wd (up2 I 50 4 (nI 0)) L R) := by
  refine mt_of (own := RX2) (by decide) rfl rfl (fun Z C P B => ?_)
  have D := @dc_of _ _ dX2_clear
  refine j_aload_n C (D 0 rfl) rfl ?_
  refine j_iconst C (v := nI 0) (D 1 rfl) rfl ?_
  refine j_puti C f_X2_24 (lit (kd := 2) (n := 5) rfl) rfl rfl (D 2 rfl) ?_
  exact j_vret C P rfl (D 3 rfl) ⟨Nat.le_refl _, Nat.le_refl _⟩ ⟨rfl, rfl⟩
set_option maxRecDepth 20000 in
theorem c_textQ (l : Launch) (G : GT) {c c' : Nat} (hc : isC c) (hc2 : isC c') {I : Nat → Nat → Int32} {L : Nat → Nat → Int64} {R : Nat → Nat → Option Nat} (hL : Lay R) (hr5 : R 0 5 = some c') (hr3 : R 4 3 = some c) (b : BT) (hb : b.1 ≤ 1200) (hT : TP I 0 1 1 b) (hz : I (c + 7) 0 = nI 0) : Mt l G mX11_text (34) 0 0 [.ref (ra G 0)] (wd I L R) (txP I L R c c' (pTxt b)) := by
  refine mt_of (own := RX11) (by decide) rfl rfl (fun Z C P B => ?_)
  have D := @dc_of _ _ dX11_text
  have hcr := isC_rng hc
  refine j_aload_n C (D 0 rfl) rfl ?_
  refine j_getr C f_X11_23 (lit (kd := 11) (n := 12) rfl) rfl rfl (hL _ _ _ rfl) (D 1 rfl) ?_
  refine j_aload_n C (D 2 rfl) rfl ?_
  refine j_getr C f_X11_9 (lit (kd := 11) (n := 12) rfl) rfl rfl (hL _ _ _ rfl) (D 3 rfl) ?_
  refine j_aload_n C (D 4 rfl) rfl ?_
  refine j_geti C f_X11_69 (lit (kd := 11) (n := 12) rfl) rfl rfl (D 5 rfl) ?_
  rw [hT.1]
  refine j_callV C B k_X11_77 (rc_obj C (lit (kd := 4) (n := 8) rfl) rfl rfl) (c_readAll _ _ hc hL b.2 b.1 hb hT.2 hr3 hz) rfl rfl rfl rfl ⟨Nat.le_refl _, Nat.le_refl _⟩ (D 6 rfl) ?_
  rintro r w' ⟨rfl, I1, R1, rfl, hR1, hF, h0, h1⟩
  have hL1 := Lay_6 hL hR1
  have hr51 : R1 0 5 = some c' := by rw [hR1 _ _ (by omega)]; exact hr5
  have hr31 : R1 4 3 = some c := by rw [hR1 _ _ (by omega)]; exact hr3
  refine j_istore_n C (D 7 rfl) rfl ?_
  refine j_aload_n C (D 8 rfl) rfl ?_
  refine j_iconst C (v := nI 0) (D 9 rfl) rfl ?_
  refine j_puti C f_X11_69 (lit (kd := 11) (n := 12) rfl) rfl rfl (D 10 rfl) ?_
  refine j_iload_n C (D 11 rfl) rfl ?_
  refine j_bipush C (v := (-4)) (D 12 rfl) (by decide) ?_
  refine j_icmp_ne C  30 (D 13 rfl) (by decide) (fun h24 => ?_) (fun h24 => ?_)
  · obtain ⟨x, hx⟩ := aTx_ne h24
    have hx : pTxt b = .inr x := hx
    refine j_aload_n C (D 16 rfl) rfl ?_
    refine j_aload_n C (D 17 rfl) rfl ?_
    refine j_getr C f_X11_23 (lit (kd := 11) (n := 12) rfl) rfl rfl (hL1 _ _ _ rfl) (D 18 rfl) ?_
    refine j_aload_n C (D 19 rfl) rfl ?_
    refine j_getr C f_X11_37 (lit (kd := 11) (n := 12) rfl) rfl rfl hr51 (D 20 rfl) ?_
    refine j_callV C B k_X11_81 (rc_obj C (lit (kd := 4) (n := 8) rfl) rfl rfl) (c_exchange _ _ hc hL1 hr31) rfl rfl rfl rfl ⟨Nat.le_refl _, Nat.le_refl _⟩ (D 21 rfl) ?_
    rintro r w' ⟨rfl, rfl⟩
    have hL2 := Lay_up (v := some c') hL1 (show rfx 4 3 = none from rfl)
    refine j_putr C f_X11_37 (lit (kd := 11) (n := 12) rfl) rfl rfl (D 22 rfl) ?_
    refine j_aload_n C (D 23 rfl) rfl ?_
    refine j_iconst C (v := nI 1) (D 24 rfl) rfl ?_
    refine j_putz C f_X11_85 (lit (kd := 11) (n := 12) rfl) rfl rfl (D 25 rfl) (by first | exact Or.inl rfl | exact Or.inr rfl) ?_
    refine j_aload_n C (D 26 rfl) rfl ?_
    refine j_getr C f_X11_30 (lit (kd := 11) (n := 12) rfl) rfl rfl ((Lay_up hL2 (show rfx 0 5 = none from rfl)) _ _ _ rfl) (D 27 rfl) ?_
    refine j_callV C B k_X11_89 (rc_obj C (lit (kd := 2) (n := 5) rfl) rfl rfl) (c_hclear _ _ (Lay_up hL2 rfl)) rfl rfl rfl rfl ⟨Nat.le_refl _, Nat.le_refl _⟩ (D 28 rfl) ?_
    rintro r w' ⟨rfl, rfl⟩
    refine j_iload_n C (D 29 rfl) rfl ?_
    exact j_iret C P rfl (D 30 rfl) ⟨Nat.le_refl _, Nat.le_refl _⟩ ⟨rfl, _, _, rfl, by rw [up2_i (by omega), up2_i (by omega), up2_same], Fx.up (Fx.up (Fx.up (hF.mo (rAB c)) (Or.inr (Or.inl ⟨rfl, by omega⟩))) (Or.inr (Or.inl ⟨rfl, by omega⟩))) (Or.inr (Or.inr ⟨rfl, rfl⟩)), fun e h => (by rw [hx] at h; cases h), fun x2 h => by
  obtain ⟨g1, g2, g3, g4, g5⟩ := h1 x2 h
  refine ⟨up2_same _ _ _ _, by rw [up2_r (by omega), up2_same], fun b j q1 q2 q3 => by rw [up2_r q2, up2_r q3]; exact hR1 b j q1, CT_of g1 (fun y k q1 q2 q3 => by rw [up2_i (by omega), up2_i (by omega), up2_i (by omega)]) g2.1, g2, ?_, ?_, by rw [up2_i (by omega), up2_same], up2_same _ _ _ _⟩
  · rw [up2_i (by omega), up2_i (by omega), up2_i (by omega)]; exact g4
  · rw [up2_i (by omega), up2_i (by omega), up2_i (by omega)]; exact g5⟩
  · obtain ⟨e, he⟩ := aTx_eq h24 (fun x h => (h1 x h).2.2.1)
    have he : pTxt b = .inl e := he
    refine j_bipush C (v := (-4)) (D 14 rfl) (by decide) ?_
    exact j_iret C P rfl (D 15 rfl) ⟨Nat.le_refl _, Nat.le_refl _⟩ ⟨by rw [he]; rfl, _, R1, rfl, up2_same _ _ _ _, Fx.up (hF.mo (rAB c)) (Or.inr (Or.inl ⟨rfl, by omega⟩)), fun e2 h => ⟨hR1, by rw [up2_i (by omega)]; exact (h0 e2 h).1, by rw [up2_i (by omega)]; exact (h0 e2 h).2, by rw [up2_i (by omega)]; exact hF _ _ (fun z => by unfold rA at z; omega), by rw [up2_i (by omega)]; exact hF _ _ (fun z => by unfold rA at z; omega)⟩, fun x h => by rw [he] at h; cases h⟩

theorem evm {n : Nat} (h : n ≤ 1000) : (nI n - nI 1).toInt + 1 = n := by
  rw [i_sub (by rw [nI_int (by omega), nI_int (by omega)]; omega) (by rw [nI_int (by omega), nI_int (by omega)]; omega), nI_int (by omega), nI_int (by omega)]
  omega
theorem thn_e {T : Nat → TK} {s j : Nat} {o : OPS} {e : Nat × Nat} (h : pTake T j s = .inl e) : thn T s (.inr (o, j)) = .inl e := by rw [thn, h]
theorem thn_o {T : Nat → TK} {s j j2 : Nat} {o : OPS} (h : pTake T j s = .inr j2) : thn T s (.inr (o, j)) = .inr (o, j2) := by rw [thn, h]
/-- what stood at i was no end -/
theorem lt_sg {T : Nat → TK} {N i s : Nat} (hN : TN T N) (hi : i ≤ N) (h : (T i).1 = s) (hs : ¬ s = 41) : i < N := lt_of_T hN.2.1 hi (by rw [h]; exact hs)
set_option maxRecDepth 20000 in
theorem c_readTerm_of (l : Launch) (G : GT) {c : Nat} (hc : isC c) {I : Nat → Nat → Int32} {L : Nat → Nat → Int64} {R : Nat → Nat → Option Nat} (hL : Lay R) {T : Nat → TK} {N nE m i : Nat} (hN : TN T N) (hE : nE ≤ 10) (hP : PC I R T N c nE m i) {w d D : Nat} (hw : w ≤ 6) (hd : 2 ≤ d) {tr gs : Nat → RE} (htr : ∀ i, tr i = if (T i).1 = 37 then (if w < 6 then thn T 38 (gs (i + 1)) else .inl (fl T i 4)) else trm0 T nE i) (hok : OKR N nE false D gs) (hg : w < 6 → ∀ (l : Launch) (I : Nat → Nat → Int32) (m i : Nat), PC I R T N c nE m i → Mt l G mX4_readSum (d - 1) 0 0 [.ref (ra G 4), .int (nI (w + 1))] (wd I L R) (PX I L R (eP0 c) (eP1 c) (eO I c m) (gs i))) : Mt l G mX4_readTerm (d) 0 0 [.ref (ra G 4), .int (nI w)] (wd I L R) (PX I L R (eP0 c) (eP1 c) (eO I c m) (tr i)) := by
  refine mt_of (own := RX4) (by decide) rfl rfl (fun Z C P B => ?_)
  have D := @dc_of _ _ dX4_readTerm
  have hr3 := hP.2.1
  have hn := ct_ne hc
  have hN1 := hN.1
  have hi1 := hP.1.2.2
  have hm1 := hP.2.2.2.1
  refine j_aload_n C (D 0 rfl) rfl ?_
  refine j_gsgn C (i := 37) (by decide) s_X4_327 (D 1 rfl) ?_
  refine j_cVp C B k_X4_52 (rc_obj C (lit (kd := 4) (n := 8) rfl) rfl rfl) (c_sees _ _ hL hN hP.1 (by decide)) rfl rfl (Nat.ble_eq_true_of_le (by omega)) rfl ⟨Nat.le_refl _, Nat.le_refl _⟩ (D 2 rfl) ?_
  refine j_if_eq C  53 (D 3 rfl) (by decide) (fun h7 => ?_) (fun h7 => ?_)
  · refine j_aload_n C (D 28 rfl) rfl ?_
    refine j_gsgn C (i := 23) (by decide) s_X4_333 (D 29 rfl) ?_
    refine j_cVp C B k_X4_52 (rc_obj C (lit (kd := 4) (n := 8) rfl) rfl rfl) (c_sees _ _ hL hN hP.1 (by decide)) rfl rfl (Nat.ble_eq_true_of_le (by omega)) rfl ⟨Nat.le_refl _, Nat.le_refl _⟩ (D 30 rfl) ?_
    refine j_if_eq C  104 (D 31 rfl) (by decide) (fun h60 => ?_) (fun h60 => ?_)
    · refine j_aload_n C (D 55 rfl) rfl ?_
      refine j_gsgn C (i := 39) (by decide) s_X4_84 (D 56 rfl) ?_
      refine j_cVp C B k_X4_52 (rc_obj C (lit (kd := 4) (n := 8) rfl) rfl rfl) (c_sees _ _ hL hN hP.1 (by decide)) rfl rfl (Nat.ble_eq_true_of_le (by omega)) rfl ⟨Nat.le_refl _, Nat.le_refl _⟩ (D 57 rfl) ?_
      refine j_if_eq C  143 (D 58 rfl) (by decide) (fun h111 => ?_) (fun h111 => ?_)
      · refine j_aload_n C (D 75 rfl) rfl ?_
        refine j_callV C B k_X4_336 (rc_obj C (lit (kd := 4) (n := 8) rfl) rfl rfl) (c_readWord _ _ hc hL hN hE hP) rfl rfl (Nat.ble_eq_true_of_le (by omega)) rfl ⟨Nat.le_refl _, Nat.le_refl _⟩ (D 76 rfl) ?_
        rintro r w' ⟨rfl, I2, rfl, k0, k1⟩
        exact j_zret C P rfl (isB_ok _) (D 77 rfl) ⟨Nat.le_refl _, Nat.le_refl _⟩ (by rw [show tr i = opW T i from by rw [htr, if_neg (b2_eq h7), trm0, if_neg (b2_eq h60), if_neg (b2_eq h111)]]; exact PX_t k0 k1 (Fx.rf _ _) (eP01 c) (fun a h _ => h))
      · have hlt := lt_sg hN hi1 (b2_ne h111) (by decide)
        refine j_aload_n C (D 59 rfl) rfl ?_
        refine j_iconst C (v := nI 0) (D 60 rfl) rfl ?_
        refine j_ldc C (v := 99999) (D 61 rfl) n_X4_175 ?_
        refine j_callV C B k_X4_100 (rc_obj C (lit (kd := 4) (n := 8) rfl) rfl rfl) (c_takeNumber _ _ hL hN hP.1 (lo := 0) (hx := 100000) (hi := 99999) (by omega) (by omega) (by decide)) rfl rfl (Nat.ble_eq_true_of_le (by omega)) rfl ⟨Nat.le_refl _, Nat.le_refl _⟩ (D 62 rfl) ?_
        rintro r w' ⟨rfl, I2, rfl, k0, k1⟩
        refine j_if_ne C  126 (D 63 rfl) (by decide) (fun h121 => ?_) (fun h121 => ?_)
        · obtain ⟨⟨v, j⟩, hq⟩ := okB_ne h121
          obtain ⟨⟨z0, zv⟩, zF⟩ := k1 _ hq
          have z0 : I2 4 4 = nI j := z0
          have zv : I2 4 5 = nI v := zv
          obtain ⟨-, -, -, b4, b5⟩ := pNum_in hq
          have hm2 : I2 (c + 5) 4 = nI m := by rw [zF _ _ (fun z => by have := z.1; omega)]; exact hP.2.2.1
          refine j_aload_n C (D 66 rfl) rfl ?_
          refine j_getr C f_X4_25 (lit (kd := 4) (n := 8) rfl) rfl rfl hr3 (D 67 rfl) ?_
          refine j_getr C f_X4_129 (sC0 hc) rfl rfl (hL _ _ _ (rC4 hc)) (D 68 rfl) ?_
          refine j_iconst C (v := nI 0) (D 69 rfl) rfl ?_
          refine j_aload_n C (D 70 rfl) rfl ?_
          refine j_geti C f_X4_90 (lit (kd := 4) (n := 8) rfl) rfl rfl (D 71 rfl) ?_
          rw [zv]
          refine j_callV C B k_X4_281 (rc_obj C (sC5 hc) rfl rfl) (c_emit _ _ hc hL hm2 (by omega) (0, nI v)) rfl rfl (Nat.ble_eq_true_of_le (by omega)) rfl ⟨Nat.le_refl _, Nat.le_refl _⟩ (D 72 rfl) ?_
          rintro r w' ⟨rfl, rfl⟩
          refine j_iconst C (v := nI 1) (D 73 rfl) rfl ?_
          exact j_zret C P rfl (by first | exact Or.inl rfl | exact Or.inr rfl | assumption) (D 74 rfl) ⟨Nat.le_refl _, Nat.le_refl _⟩ (PX_o (a := ([(0, nI v)], j)) (by rw [htr, if_neg (b2_eq h7), trm0, if_neg (b2_eq h60), if_pos (b2_ne h111), hq]; rfl) ⟨by rw [up2_i (by omega), up2_i (by omega)]; exact z0, CDE_l hc zF CDE_emit⟩ ((zF.mo (rP0e c)).tr em_F))
        · obtain ⟨e, hq⟩ := okB_eq h121
          obtain ⟨z0, z1, z2⟩ := k0 e hq
          refine j_iconst C (v := nI 0) (D 64 rfl) rfl ?_
          exact j_zret C P rfl (by first | exact Or.inl rfl | exact Or.inr rfl | assumption) (D 65 rfl) ⟨Nat.le_refl _, Nat.le_refl _⟩ (PX_e (e := e) (by rw [htr, if_neg (b2_eq h7), trm0, if_neg (b2_eq h60), if_pos (b2_ne h111), hq]; rfl) z0 z1 (z2.mo (rP1e c)))
    · have h23 : (T i).1 = 23 := b2_ne h60
      have hlt := lt_sg hN hi1 h23 (by decide)
      refine j_aload_n C (D 32 rfl) rfl ?_
      refine j_callV C B k_X4_77 (rc_obj C (lit (kd := 4) (n := 8) rfl) rfl rfl) (c_advance _ _ hL hN hP.1 hlt) rfl rfl (Nat.ble_eq_true_of_le (by omega)) rfl ⟨Nat.le_refl _, Nat.le_refl _⟩ (D 33 rfl) ?_
      rintro r w' ⟨rfl, rfl⟩
      refine j_pop C (D 34 rfl) rfl ?_
      refine j_aload_n C (D 35 rfl) rfl ?_
      refine j_iconst C (v := nI 0) (D 36 rfl) rfl ?_
      refine j_aload_n C (D 37 rfl) rfl ?_
      refine j_getr C f_X4_25 (lit (kd := 4) (n := 8) rfl) rfl rfl hr3 (D 38 rfl) ?_
      refine j_geti C f_X4_104 (sC0 hc) rfl rfl (D 39 rfl) ?_
      rw [up2_i (by omega), hP.2.2.2.2]
      refine j_iconst C (v := nI 1) (D 40 rfl) rfl ?_
      refine j_isub C (D 41 rfl) ?_
      refine j_callV C B k_X4_100 (rc_obj C (lit (kd := 4) (n := 8) rfl) rfl rfl) (c_takeNumber _ _ hL hN (SE_go hP.1 adv_F (fun b k z => by have := z.1; omega) (up2_same _ _ _ _) hlt) (lo := 0) (by omega) (by omega) (evm (by omega))) rfl rfl (Nat.ble_eq_true_of_le (by omega)) rfl ⟨Nat.le_refl _, Nat.le_refl _⟩ (D 42 rfl) ?_
      rintro r w' ⟨rfl, I2, rfl, k0, k1⟩
      refine j_if_ne C  87 (D 43 rfl) (by decide) (fun h82 => ?_) (fun h82 => ?_)
      · obtain ⟨⟨v, j⟩, hq⟩ := okB_ne h82
        obtain ⟨⟨z0, zv⟩, zF⟩ := k1 _ hq
        have z0 : I2 4 4 = nI j := z0
        have zv : I2 4 5 = nI v := zv
        obtain ⟨-, -, -, b4, b5⟩ := pNum_in hq
        have hm2 : I2 (c + 5) 4 = nI m := by rw [zF _ _ (fun z => by have := z.1; omega), up2_i (by omega)]; exact hP.2.2.1
        refine j_aload_n C (D 46 rfl) rfl ?_
        refine j_getr C f_X4_25 (lit (kd := 4) (n := 8) rfl) rfl rfl hr3 (D 47 rfl) ?_
        refine j_getr C f_X4_129 (sC0 hc) rfl rfl (hL _ _ _ (rC4 hc)) (D 48 rfl) ?_
        refine j_iconst C (v := nI 1) (D 49 rfl) rfl ?_
        refine j_aload_n C (D 50 rfl) rfl ?_
        refine j_geti C f_X4_90 (lit (kd := 4) (n := 8) rfl) rfl rfl (D 51 rfl) ?_
        rw [zv]
        refine j_callV C B k_X4_281 (rc_obj C (sC5 hc) rfl rfl) (c_emit _ _ hc hL hm2 (by omega) (1, nI v)) rfl rfl (Nat.ble_eq_true_of_le (by omega)) rfl ⟨Nat.le_refl _, Nat.le_refl _⟩ (D 52 rfl) ?_
        rintro r w' ⟨rfl, rfl⟩
        refine j_iconst C (v := nI 1) (D 53 rfl) rfl ?_
        exact j_zret C P rfl (by first | exact Or.inl rfl | exact Or.inr rfl | assumption) (D 54 rfl) ⟨Nat.le_refl _, Nat.le_refl _⟩ (PX_o (a := ([(1, nI v)], j)) (by rw [htr, if_neg (b2_eq h7), trm0, if_pos h23, hq]; rfl) ⟨by rw [up2_i (by omega), up2_i (by omega)]; exact z0, CDE_l hc (adv_F.tr zF) CDE_emit⟩ (((adv_F.tr zF).mo (rP0e c)).tr em_F))
      · obtain ⟨e, hq⟩ := okB_eq h82
        obtain ⟨z0, z1, z2⟩ := k0 e hq
        refine j_iconst C (v := nI 0) (D 44 rfl) rfl ?_
        exact j_zret C P rfl (by first | exact Or.inl rfl | exact Or.inr rfl | assumption) (D 45 rfl) ⟨Nat.le_refl _, Nat.le_refl _⟩ (PX_e (e := e) (by rw [htr, if_neg (b2_eq h7), trm0, if_pos h23, hq]; rfl) z0 z1 ((adv_F.mo (rP0e1 c)).tr (z2.mo (rP1e c))))
  · have h37 : (T i).1 = 37 := b2_ne h7
    have hlt := lt_sg hN hi1 h37 (by decide)
    refine j_iload_n C (D 4 rfl) rfl ?_
    refine j_bipush C (v := nI 6) (D 5 rfl) rfl ?_
    refine j_icmp_lt C  22 (D 6 rfl) (by decide) (fun h13 => ?_) (fun h13 => ?_)
    · have hw6 : w < 6 := by rw [nlt (by omega) (by omega)] at h13; omega
      refine j_aload_n C (D 11 rfl) rfl ?_
      refine j_callV C B k_X4_77 (rc_obj C (lit (kd := 4) (n := 8) rfl) rfl rfl) (c_advance _ _ hL hN hP.1 hlt) rfl rfl (Nat.ble_eq_true_of_le (by omega)) rfl ⟨Nat.le_refl _, Nat.le_refl _⟩ (D 12 rfl) ?_
      rintro r w' ⟨rfl, rfl⟩
      refine j_pop C (D 13 rfl) rfl ?_
      refine j_aload_n C (D 14 rfl) rfl ?_
      refine j_iload_n C (D 15 rfl) rfl ?_
      refine j_iconst C (v := nI 1) (D 16 rfl) rfl ?_
      refine j_iadd C (D 17 rfl) ?_
      rw [nI_add]
      refine j_callV C B k_X4_303 (rc_obj C (lit (kd := 4) (n := 8) rfl) rfl rfl) (hg hw6 _ _ _ _ (PC_r hc hP adv_F (up2_same _ _ _ _) hlt (by omega))) rfl rfl (Nat.ble_eq_true_of_le (by omega)) rfl ⟨Nat.le_refl _, Nat.le_refl _⟩ (D 18 rfl) ?_
      rintro r w' ⟨rfl, I2, rfl, k0, k1⟩
      refine j_if_eq C  51 (D 19 rfl) (by decide) (fun h34 => ?_) (fun h34 => ?_)
      · obtain ⟨e, hq⟩ := okB_eq h34
        obtain ⟨z0, z1, z2⟩ := k0 e hq
        refine j_iconst C (v := nI 0) (D 26 rfl) rfl ?_
        exact j_zret C P rfl (by first | exact Or.inl rfl | exact Or.inr rfl | assumption) (D 27 rfl) ⟨Nat.le_refl _, Nat.le_refl _⟩ (PX_e (e := e) (by rw [htr, if_pos h37, if_pos hw6, hq]; rfl) z0 z1 ((adv_F.mo (rP0e1 c)).tr z2))
      · obtain ⟨⟨o, i2⟩, hq⟩ := okB_ne h34
        obtain ⟨⟨z0, zC⟩, zF⟩ := k1 _ hq
        have z0 : I2 4 4 = nI i2 := z0
        have zC : CDE (up2 I 4 4 (nI (i + 1))) I2 c m o := zC
        have hk := hok (i + 1) (by omega)
        rw [hq] at hk
        obtain ⟨a1, a2, a3, -⟩ := hk
        have zC2 := CDE_l hc adv_F zC
        have zF2 := (adv_F.mo (rP0e c)).tr zF
        have hP2 := PC_go hc hP zF2 z0 a2 zC2 (by omega)
        refine j_aload_n C (D 20 rfl) rfl ?_
        refine j_gsgn C (i := 38) (by decide) s_X4_330 (D 21 rfl) ?_
        refine j_callV C B k_X4_63 (rc_obj C (lit (kd := 4) (n := 8) rfl) rfl rfl) (c_take _ _ hL hN hP2.1 (by decide)) rfl rfl (Nat.ble_eq_true_of_le (by omega)) rfl ⟨Nat.le_refl _, Nat.le_refl _⟩ (D 22 rfl) ?_
        rintro r w' ⟨rfl, I3, rfl, k2, k3⟩
        refine j_if_eq C  51 (D 23 rfl) (by decide) (fun h44 => ?_) (fun h44 => ?_)
        · obtain ⟨e, hq3⟩ := okB_eq h44
          obtain ⟨y0, y1, y2⟩ := k2 e hq3
          refine j_iconst C (v := nI 0) (D 26 rfl) rfl ?_
          exact j_zret C P rfl (by first | exact Or.inl rfl | exact Or.inr rfl | assumption) (D 27 rfl) ⟨Nat.le_refl _, Nat.le_refl _⟩ (PX_e (e := e) (by rw [htr, if_pos h37, if_pos hw6, hq]; exact thn_e hq3) y0 y1 ((zF2.mo (eP01 c)).tr (y2.mo (rP1e c))))
        · obtain ⟨j, hq3⟩ := okB_ne h44
          obtain ⟨y0, y1⟩ := k3 j hq3
          refine j_iconst C (v := nI 1) (D 24 rfl) rfl ?_
          refine j_goto C 52 (D 25 rfl) (by decide) ?_
          exact j_zret C P rfl (by first | exact Or.inl rfl | exact Or.inr rfl | assumption) (D 27 rfl) ⟨Nat.le_refl _, Nat.le_refl _⟩ (PX_o (a := (o, j)) (by rw [htr, if_pos h37, if_pos hw6, hq]; exact thn_o hq3) ⟨y0, CDE_r hc zC2 y1⟩ (zF2.tr (y1.mo (rP0e c))))
    · have hw6 : ¬ w < 6 := fun z => h13 ((nlt (by omega) (by omega)).mpr z)
      refine j_aload_n C (D 7 rfl) rfl ?_
      refine j_iconst C (v := nI 4) (D 8 rfl) rfl ?_
      refine j_callV C B k_X4_80 (rc_obj C (lit (kd := 4) (n := 8) rfl) rfl rfl) (c_refuse _ _ hL hN hP.1 4) rfl rfl (Nat.ble_eq_true_of_le (by omega)) rfl ⟨Nat.le_refl _, Nat.le_refl _⟩ (D 9 rfl) ?_
      rintro r w' ⟨rfl, rfl⟩
      exact j_zret C P rfl (by first | exact Or.inl rfl | exact Or.inr rfl | assumption) (D 10 rfl) ⟨Nat.le_refl _, Nat.le_refl _⟩ (PX_e (e := fl T i 4) (by rw [htr, if_pos h37, if_neg hw6]) flt0 (up2_same _ _ _ _) (Fx.up (Fx.up (Fx.rf _ _) (Or.inl ⟨rfl, by omega⟩)) (Or.inl ⟨rfl, by omega⟩)))
set_option maxRecDepth 20000 in
theorem c_readNegation_of (l : Launch) (G : GT) {c : Nat} (hc : isC c) {I : Nat → Nat → Int32} {L : Nat → Nat → Int64} {R : Nat → Nat → Option Nat} (hL : Lay R) {T : Nat → TK} {N nE m i : Nat} (hN : TN T N) (hE : nE ≤ 10) (hP : PC I R T N c nE m i) {w d df D : Nat} (hw : w ≤ 6) (hd : df + 1 ≤ d) (hlt : i < N) {gf : Nat → RE} (hok : OKR N nE true D gf) (hg : w < 6 → ∀ (l : Launch) (I : Nat → Nat → Int32) (m i : Nat), PC I R T N c nE m i → Mt l G mX4_readFact df 0 0 [.ref (ra G 4), .int (nI (w + 1))] (wd I L R) (PX I L R (eP0 c) (eP1 c) (eO I c m) (gf i))) : Mt l G mX4_readNegation (d) 0 0 [.ref (ra G 4), .int (nI w)] (wd I L R) (PX I L R (eP0 c) (eP1 c) (eO I c m) (if w < 6 then ngt (gf (i + 1)) else .inl (fl T i 4))) := by
  refine mt_of (own := RX4) (by decide) rfl rfl (fun Z C P B => ?_)
  have D := @dc_of _ _ dX4_readNegation
  have hr3 := hP.2.1
  have hn := ct_ne hc
  have hN1 := hN.1
  have hi1 := hP.1.2.2
  have hm1 := hP.2.2.2.1
  refine j_iload_n C (D 0 rfl) rfl ?_
  refine j_bipush C (v := nI 6) (D 1 rfl) rfl ?_
  refine j_icmp_lt C  12 (D 2 rfl) (by decide) (fun h3 => ?_) (fun h3 => ?_)
  · have hw6 : w < 6 := by rw [nlt (by omega) (by omega)] at h3; omega
    refine j_aload_n C (D 7 rfl) rfl ?_
    refine j_callV C B k_X4_77 (rc_obj C (lit (kd := 4) (n := 8) rfl) rfl rfl) (c_advance _ _ hL hN hP.1 hlt) rfl rfl (Nat.ble_eq_true_of_le (by omega)) rfl ⟨Nat.le_refl _, Nat.le_refl _⟩ (D 8 rfl) ?_
    rintro r w' ⟨rfl, rfl⟩
    refine j_pop C (D 9 rfl) rfl ?_
    refine j_aload_n C (D 10 rfl) rfl ?_
    refine j_iload_n C (D 11 rfl) rfl ?_
    refine j_iconst C (v := nI 1) (D 12 rfl) rfl ?_
    refine j_iadd C (D 13 rfl) ?_
    rw [nI_add]
    refine j_callV C B k_X4_285 (rc_obj C (lit (kd := 4) (n := 8) rfl) rfl rfl) (hg hw6 _ _ _ _ (PC_r hc hP adv_F (up2_same _ _ _ _) hlt (by omega))) rfl rfl (Nat.ble_eq_true_of_le (by omega)) rfl ⟨Nat.le_refl _, Nat.le_refl _⟩ (D 14 rfl) ?_
    rintro r w' ⟨rfl, I2, rfl, k0, k1⟩
    refine j_if_ne C  29 (D 15 rfl) (by decide) (fun h24 => ?_) (fun h24 => ?_)
    · obtain ⟨⟨o, i2⟩, hq⟩ := okB_ne h24
      obtain ⟨⟨z0, zC⟩, zF⟩ := k1 _ hq
      have z0 : I2 4 4 = nI i2 := z0
      have zC : CDE (up2 I 4 4 (nI (i + 1))) I2 c m o := zC
      have hk := hok (i + 1) (by omega)
      rw [hq] at hk
      obtain ⟨a1, a2, a3, -⟩ := hk
      have zC2 := CDE_l hc adv_F zC
      have zF2 := (adv_F.mo (rP0e c)).tr zF
      have hP2 := PC_go hc hP zF2 z0 a2 zC2 (by omega)
      refine j_aload_n C (D 18 rfl) rfl ?_
      refine j_getr C f_X4_25 (lit (kd := 4) (n := 8) rfl) rfl rfl hr3 (D 19 rfl) ?_
      refine j_getr C f_X4_129 (sC0 hc) rfl rfl (hL _ _ _ (rC4 hc)) (D 20 rfl) ?_
      refine j_bipush C (v := nI 13) (D 21 rfl) rfl ?_
      refine j_iconst C (v := nI 0) (D 22 rfl) rfl ?_
      refine j_callV C B k_X4_281 (rc_obj C (sC5 hc) rfl rfl) (c_emit _ _ hc hL zC.1 (by omega) (11, 0)) rfl rfl (Nat.ble_eq_true_of_le (by omega)) rfl ⟨Nat.le_refl _, Nat.le_refl _⟩ (D 23 rfl) ?_
      rintro r w' ⟨rfl, rfl⟩
      refine j_iconst C (v := nI 1) (D 24 rfl) rfl ?_
      exact j_zret C P rfl (by first | exact Or.inl rfl | exact Or.inr rfl | assumption) (D 25 rfl) ⟨Nat.le_refl _, Nat.le_refl _⟩ (PX_o (a := (o ++ [(11, 0)], i2)) (by rw [if_pos hw6, hq]; rfl) ⟨by rw [up2_i (by omega), up2_i (by omega)]; exact z0, CDE_app zC2 CDE_emit⟩ (zF2.tr em_F))
    · obtain ⟨e, hq⟩ := okB_eq h24
      obtain ⟨z0, z1, z2⟩ := k0 e hq
      refine j_iconst C (v := nI 0) (D 16 rfl) rfl ?_
      exact j_zret C P rfl (by first | exact Or.inl rfl | exact Or.inr rfl | assumption) (D 17 rfl) ⟨Nat.le_refl _, Nat.le_refl _⟩ (PX_e (e := e) (by rw [if_pos hw6, hq]; rfl) z0 z1 ((adv_F.mo (rP0e1 c)).tr z2))
  · have hw6 : ¬ w < 6 := fun z => h3 ((nlt (by omega) (by omega)).mpr z)
    refine j_aload_n C (D 3 rfl) rfl ?_
    refine j_iconst C (v := nI 4) (D 4 rfl) rfl ?_
    refine j_callV C B k_X4_80 (rc_obj C (lit (kd := 4) (n := 8) rfl) rfl rfl) (c_refuse _ _ hL hN hP.1 4) rfl rfl (Nat.ble_eq_true_of_le (by omega)) rfl ⟨Nat.le_refl _, Nat.le_refl _⟩ (D 5 rfl) ?_
    rintro r w' ⟨rfl, rfl⟩
    exact j_zret C P rfl (by first | exact Or.inl rfl | exact Or.inr rfl | assumption) (D 6 rfl) ⟨Nat.le_refl _, Nat.le_refl _⟩ (PX_e (e := fl T i 4) (by rw [if_neg hw6]) flt0 (up2_same _ _ _ _) (Fx.up (Fx.up (Fx.rf _ _) (Or.inl ⟨rfl, by omega⟩)) (Or.inl ⟨rfl, by omega⟩)))
set_option maxRecDepth 20000 in
theorem c_readBracket_of (l : Launch) (G : GT) {c : Nat} (hc : isC c) {I : Nat → Nat → Int32} {L : Nat → Nat → Int64} {R : Nat → Nat → Option Nat} (hL : Lay R) {T : Nat → TK} {N nE m i : Nat} (hN : TN T N) (hE : nE ≤ 10) (hP : PC I R T N c nE m i) {w d dt D : Nat} (hw : w ≤ 6) (hd : 2 ≤ d) (hdt : dt + 1 ≤ d) (hlt : i < N) {gt : Nat → RE} (hok : OKR N nE true D gt) (hg : w < 6 → ∀ (l : Launch) (I : Nat → Nat → Int32) (m i : Nat), PC I R T N c nE m i → Mt l G mX4_readTest dt 0 0 [.ref (ra G 4), .int (nI (w + 1))] (wd I L R) (PX I L R (eP0 c) (eP1 c) (eO I c m) (gt i))) : Mt l G mX4_readBracket (d) 0 0 [.ref (ra G 4), .int (nI w)] (wd I L R) (PX I L R (eP0 c) (eP1 c) (eO I c m) (if w < 6 then thn T 36 (gt (i + 1)) else .inl (fl T i 4))) := by
  refine mt_of (own := RX4) (by decide) rfl rfl (fun Z C P B => ?_)
  have D := @dc_of _ _ dX4_readBracket
  have hr3 := hP.2.1
  have hn := ct_ne hc
  have hN1 := hN.1
  have hi1 := hP.1.2.2
  have hm1 := hP.2.2.2.1
  refine j_iload_n C (D 0 rfl) rfl ?_
  refine j_bipush C (v := nI 6) (D 1 rfl) rfl ?_
  refine j_icmp_lt C  12 (D 2 rfl) (by decide) (fun h3 => ?_) (fun h3 => ?_)
  · have hw6 : w < 6 := by rw [nlt (by omega) (by omega)] at h3; omega
    refine j_aload_n C (D 7 rfl) rfl ?_
    refine j_callV C B k_X4_77 (rc_obj C (lit (kd := 4) (n := 8) rfl) rfl rfl) (c_advance _ _ hL hN hP.1 hlt) rfl rfl (Nat.ble_eq_true_of_le (by omega)) rfl ⟨Nat.le_refl _, Nat.le_refl _⟩ (D 8 rfl) ?_
    rintro r w' ⟨rfl, rfl⟩
    refine j_pop C (D 9 rfl) rfl ?_
    refine j_aload_n C (D 10 rfl) rfl ?_
    refine j_iload_n C (D 11 rfl) rfl ?_
    refine j_iconst C (v := nI 1) (D 12 rfl) rfl ?_
    refine j_iadd C (D 13 rfl) ?_
    rw [nI_add]
    refine j_callV C B k_X4_268 (rc_obj C (lit (kd := 4) (n := 8) rfl) rfl rfl) (hg hw6 _ _ _ _ (PC_r hc hP adv_F (up2_same _ _ _ _) hlt (by omega))) rfl rfl (Nat.ble_eq_true_of_le (by omega)) rfl ⟨Nat.le_refl _, Nat.le_refl _⟩ (D 14 rfl) ?_
    rintro r w' ⟨rfl, I2, rfl, k0, k1⟩
    refine j_if_eq C  41 (D 15 rfl) (by decide) (fun h24 => ?_) (fun h24 => ?_)
    · obtain ⟨e, hq⟩ := okB_eq h24
      obtain ⟨z0, z1, z2⟩ := k0 e hq
      refine j_iconst C (v := nI 0) (D 22 rfl) rfl ?_
      exact j_zret C P rfl (by first | exact Or.inl rfl | exact Or.inr rfl | assumption) (D 23 rfl) ⟨Nat.le_refl _, Nat.le_refl _⟩ (PX_e (e := e) (by rw [if_pos hw6, hq]; rfl) z0 z1 ((adv_F.mo (rP0e1 c)).tr z2))
    · obtain ⟨⟨o, i2⟩, hq⟩ := okB_ne h24
      obtain ⟨⟨z0, zC⟩, zF⟩ := k1 _ hq
      have z0 : I2 4 4 = nI i2 := z0
      have zC : CDE (up2 I 4 4 (nI (i + 1))) I2 c m o := zC
      have hk := hok (i + 1) (by omega)
      rw [hq] at hk
      obtain ⟨a1, a2, a3, -⟩ := hk
      have zC2 := CDE_l hc adv_F zC
      have zF2 := (adv_F.mo (rP0e c)).tr zF
      have hP2 := PC_go hc hP zF2 z0 a2 zC2 (by omega)
      refine j_aload_n C (D 16 rfl) rfl ?_
      refine j_gsgn C (i := 36) (by decide) s_X4_315 (D 17 rfl) ?_
      refine j_callV C B k_X4_63 (rc_obj C (lit (kd := 4) (n := 8) rfl) rfl rfl) (c_take _ _ hL hN hP2.1 (by decide)) rfl rfl (Nat.ble_eq_true_of_le (by omega)) rfl ⟨Nat.le_refl _, Nat.le_refl _⟩ (D 18 rfl) ?_
      rintro r w' ⟨rfl, I3, rfl, k2, k3⟩
      refine j_if_eq C  41 (D 19 rfl) (by decide) (fun h34 => ?_) (fun h34 => ?_)
      · obtain ⟨e, hq3⟩ := okB_eq h34
        obtain ⟨y0, y1, y2⟩ := k2 e hq3
        refine j_iconst C (v := nI 0) (D 22 rfl) rfl ?_
        exact j_zret C P rfl (by first | exact Or.inl rfl | exact Or.inr rfl | assumption) (D 23 rfl) ⟨Nat.le_refl _, Nat.le_refl _⟩ (PX_e (e := e) (by rw [if_pos hw6, hq]; first | exact thn_e hq3 | exact thn_o hq3) y0 y1 ((zF2.mo (eP01 c)).tr (y2.mo (rP1e c))))
      · obtain ⟨j, hq3⟩ := okB_ne h34
        obtain ⟨y0, y1⟩ := k3 j hq3
        refine j_iconst C (v := nI 1) (D 20 rfl) rfl ?_
        refine j_goto C 42 (D 21 rfl) (by decide) ?_
        exact j_zret C P rfl (by first | exact Or.inl rfl | exact Or.inr rfl | assumption) (D 23 rfl) ⟨Nat.le_refl _, Nat.le_refl _⟩ (PX_o (a := (o, j)) (by rw [if_pos hw6, hq]; first | exact thn_e hq3 | exact thn_o hq3) ⟨y0, CDE_r hc zC2 y1⟩ (zF2.tr (y1.mo (rP0e c))))
  · have hw6 : ¬ w < 6 := fun z => h3 ((nlt (by omega) (by omega)).mpr z)
    refine j_aload_n C (D 3 rfl) rfl ?_
    refine j_iconst C (v := nI 4) (D 4 rfl) rfl ?_
    refine j_callV C B k_X4_80 (rc_obj C (lit (kd := 4) (n := 8) rfl) rfl rfl) (c_refuse _ _ hL hN hP.1 4) rfl rfl (Nat.ble_eq_true_of_le (by omega)) rfl ⟨Nat.le_refl _, Nat.le_refl _⟩ (D 5 rfl) ?_
    rintro r w' ⟨rfl, rfl⟩
    exact j_zret C P rfl (by first | exact Or.inl rfl | exact Or.inr rfl | assumption) (D 6 rfl) ⟨Nat.le_refl _, Nat.le_refl _⟩ (PX_e (e := fl T i 4) (by rw [if_neg hw6]) flt0 (up2_same _ _ _ _) (Fx.up (Fx.up (Fx.rf _ _) (Or.inl ⟨rfl, by omega⟩)) (Or.inl ⟨rfl, by omega⟩)))
set_option maxRecDepth 20000 in
theorem c_readFact_of (l : Launch) (G : GT) {c : Nat} (hc : isC c) {I : Nat → Nat → Int32} {L : Nat → Nat → Int64} {R : Nat → Nat → Option Nat} (hL : Lay R) {T : Nat → TK} {N nE m i : Nat} (hN : TN T N) (hE : nE ≤ 10) (hP : PC I R T N c nE m i) {w d df dt ds D D2 k : Nat} (hw : w ≤ 6) (hd : 3 ≤ d) (hdf : df + 2 ≤ d) (hdt : dt + 2 ≤ d) (hdt1 : 1 ≤ dt) (hds : ds + 1 ≤ d) {ft gf gt : Nat → RE} (hft : ∀ i, ft i = if (T i).1 = 22 then (if w < 6 then ngt (gf (i + 1)) else .inl (fl T i 4)) else if (T i).1 = 35 then (if w < 6 then thn T 36 (gt (i + 1)) else .inl (fl T i 4)) else cmp T nE k i) (hok : OKR N nE true D gf) (hokt : OKR N nE true D2 gt) (hgf : w < 6 → ∀ (l : Launch) (I : Nat → Nat → Int32) (m i : Nat), PC I R T N c nE m i → Mt l G mX4_readFact df 0 0 [.ref (ra G 4), .int (nI (w + 1))] (wd I L R) (PX I L R (eP0 c) (eP1 c) (eO I c m) (gf i))) (hgt : w < 6 → ∀ (l : Launch) (I : Nat → Nat → Int32) (m i : Nat), PC I R T N c nE m i → Mt l G mX4_readTest dt 0 0 [.ref (ra G 4), .int (nI (w + 1))] (wd I L R) (PX I L R (eP0 c) (eP1 c) (eO I c m) (gt i))) (hsm : ∀ (l : Launch) (I : Nat → Nat → Int32) (m i : Nat), PC I R T N c nE m i → Mt l G mX4_readSum ds 0 0 [.ref (ra G 4), .int (nI w)] (wd I L R) (PX I L R (eP0 c) (eP1 c) (eO I c m) (sm T nE k i))) : Mt l G mX4_readFact (d) 0 0 [.ref (ra G 4), .int (nI w)] (wd I L R) (PX I L R (eP0 c) (eP1 c) (eO I c m) (ft i)) := by
  refine mt_of (own := RX4) (by decide) rfl rfl (fun Z C P B => ?_)
  have D := @dc_of _ _ dX4_readFact
  have hr3 := hP.2.1
  have hn := ct_ne hc
  have hN1 := hN.1
  have hi1 := hP.1.2.2
  have hm1 := hP.2.2.2.1
  have hos := sm_ok (nE := nE) hN.2.1 hE k
  refine j_aload_n C (D 0 rfl) rfl ?_
  refine j_gsgn C (i := 22) (by decide) s_X4_291 (D 1 rfl) ?_
  refine j_cVp C B k_X4_52 (rc_obj C (lit (kd := 4) (n := 8) rfl) rfl rfl) (c_sees _ _ hL hN hP.1 (by decide)) rfl rfl (Nat.ble_eq_true_of_le (by omega)) rfl ⟨Nat.le_refl _, Nat.le_refl _⟩ (D 2 rfl) ?_
  refine j_if_eq C  16 (D 3 rfl) (by decide) (fun h7 => ?_) (fun h7 => ?_)
  · refine j_aload_n C (D 8 rfl) rfl ?_
    refine j_gsgn C (i := 35) (by decide) s_X4_297 (D 9 rfl) ?_
    refine j_cVp C B k_X4_52 (rc_obj C (lit (kd := 4) (n := 8) rfl) rfl rfl) (c_sees _ _ hL hN hP.1 (by decide)) rfl rfl (Nat.ble_eq_true_of_le (by omega)) rfl ⟨Nat.le_refl _, Nat.le_refl _⟩ (D 10 rfl) ?_
    refine j_if_eq C  32 (D 11 rfl) (by decide) (fun h23 => ?_) (fun h23 => ?_)
    · refine j_aload_n C (D 16 rfl) rfl ?_
      refine j_iload_n C (D 17 rfl) rfl ?_
      refine j_callV C B k_X4_303 (rc_obj C (lit (kd := 4) (n := 8) rfl) rfl rfl) (hsm _ _ _ _ hP) rfl rfl (Nat.ble_eq_true_of_le (by omega)) rfl ⟨Nat.le_refl _, Nat.le_refl _⟩ (D 18 rfl) ?_
      rintro r w' ⟨rfl, I2, rfl, k0, k1⟩
      refine j_if_ne C  42 (D 19 rfl) (by decide) (fun h37 => ?_) (fun h37 => ?_)
      · obtain ⟨⟨o, i2⟩, hq⟩ := okB_ne h37
        obtain ⟨⟨z0, zC⟩, zF⟩ := k1 _ hq
        have z0 : I2 4 4 = nI i2 := z0
        have zC : CDE I I2 c m o := zC
        have hk := hos i hi1
        rw [hq] at hk
        obtain ⟨a1, a2, a3, -⟩ := hk
        have hP2 := PC_go hc hP zF z0 a2 zC (by omega)
        refine j_bipush C (v := nI 10) (D 22 rfl) rfl ?_
        refine j_istore_n C (D 23 rfl) rfl ?_
        refine j_aload_n C (D 24 rfl) rfl ?_
        refine j_gsgn C (i := 30) (by decide) s_X4_306 (D 25 rfl) ?_
        refine j_cVp C B k_X4_52 (rc_obj C (lit (kd := 4) (n := 8) rfl) rfl rfl) (c_sees _ _ hL hN hP2.1 (by decide)) rfl rfl (Nat.ble_eq_true_of_le (by omega)) rfl ⟨Nat.le_refl _, Nat.le_refl _⟩ (D 26 rfl) ?_
        refine j_if_eq C  61 (D 27 rfl) (by decide) (fun h52 => ?_) (fun h52 => ?_)
        · refine j_aload_n C (D 31 rfl) rfl ?_
          refine j_gsgn C (i := 31) (by decide) s_X4_309 (D 32 rfl) ?_
          refine j_cVp C B k_X4_52 (rc_obj C (lit (kd := 4) (n := 8) rfl) rfl rfl) (c_sees _ _ hL hN hP2.1 (by decide)) rfl rfl (Nat.ble_eq_true_of_le (by omega)) rfl ⟨Nat.le_refl _, Nat.le_refl _⟩ (D 33 rfl) ?_
          refine j_if_eq C  77 (D 34 rfl) (by decide) (fun h68 => ?_) (fun h68 => ?_)
          · refine j_aload_n C (D 38 rfl) rfl ?_
            refine j_gsgn C (i := 32) (by decide) s_X4_312 (D 39 rfl) ?_
            refine j_cVp C B k_X4_52 (rc_obj C (lit (kd := 4) (n := 8) rfl) rfl rfl) (c_sees _ _ hL hN hP2.1 (by decide)) rfl rfl (Nat.ble_eq_true_of_le (by omega)) rfl ⟨Nat.le_refl _, Nat.le_refl _⟩ (D 40 rfl) ?_
            refine j_if_ne C  93 (D 41 rfl) (by decide) (fun h84 => ?_) (fun h84 => ?_)
            · have hcm : cmpo (T i2).1 = 10 := by unfold cmpo; rw [if_neg (b2_eq h52), if_neg (b2_eq h68), if_pos (b2_ne h84)]
              have hlt := lt_sg hN a2 (b2_ne h84) (by decide)
              refine j_aload_n C (D 46 rfl) rfl ?_
              refine j_callV C B k_X4_77 (rc_obj C (lit (kd := 4) (n := 8) rfl) rfl rfl) (c_advance _ _ hL hN hP2.1 hlt) rfl rfl (Nat.ble_eq_true_of_le (by omega)) rfl ⟨Nat.le_refl _, Nat.le_refl _⟩ (D 47 rfl) ?_
              rintro r w' ⟨rfl, rfl⟩
              refine j_pop C (D 48 rfl) rfl ?_
              refine j_aload_n C (D 49 rfl) rfl ?_
              refine j_iload_n C (D 50 rfl) rfl ?_
              refine j_callV C B k_X4_303 (rc_obj C (lit (kd := 4) (n := 8) rfl) rfl rfl) (hsm _ _ _ _ (PC_r hc hP2 adv_F (up2_same _ _ _ _) hlt (by omega))) rfl rfl (Nat.ble_eq_true_of_le (by omega)) rfl ⟨Nat.le_refl _, Nat.le_refl _⟩ (D 51 rfl) ?_
              rintro r w' ⟨rfl, I3, rfl, k2, k3⟩
              refine j_if_ne C  108 (D 52 rfl) (by decide) (fun h103 => ?_) (fun h103 => ?_)
              · obtain ⟨⟨o2, i3⟩, hq2⟩ := okB_ne h103
                obtain ⟨⟨x0, xC⟩, xF⟩ := k3 _ hq2
                have x0 : I3 4 4 = nI i3 := x0
                have xC : CDE (up2 I2 4 4 (nI (i2 + 1))) I3 c (m + o.length) o2 := xC
                have hk := hos (i2 + 1) (by omega)
                rw [hq2] at hk
                obtain ⟨c1, c2, c3, -⟩ := hk
                obtain ⟨y1, y2, y3⟩ := lp_next (q := (10, 0)) hc hP2 zC zF x0 xC xF c2 c3
                refine j_aload_n C (D 55 rfl) rfl ?_
                refine j_getr C f_X4_25 (lit (kd := 4) (n := 8) rfl) rfl rfl hr3 (D 56 rfl) ?_
                refine j_getr C f_X4_129 (sC0 hc) rfl rfl (hL _ _ _ (rC4 hc)) (D 57 rfl) ?_
                refine j_iload_n C (D 58 rfl) rfl ?_
                refine j_iconst C (v := nI 0) (D 59 rfl) rfl ?_
                refine j_callV C B k_X4_281 (rc_obj C (sC5 hc) rfl rfl) (c_emit _ _ hc hL xC.1 (by omega) (10, 0)) rfl rfl (Nat.ble_eq_true_of_le (by omega)) rfl ⟨Nat.le_refl _, Nat.le_refl _⟩ (D 60 rfl) ?_
                rintro r w' ⟨rfl, rfl⟩
                refine j_iconst C (v := nI 1) (D 61 rfl) rfl ?_
                exact j_zret C P rfl (by first | exact Or.inl rfl | exact Or.inr rfl | assumption) (D 62 rfl) ⟨Nat.le_refl _, Nat.le_refl _⟩ (PX_o (a := (o ++ (o2 ++ [(10, 0)]), i3)) (by rw [hft, if_neg (b2_eq h7), if_neg (b2_eq h23), cmp, hq]; show cm2 T nE k i2 o = _; rw [cm2, if_neg (by rw [hcm]; decide), hq2, hcm]) ⟨y1.1.2.1, y2⟩ y3)
              · obtain ⟨e, hq2⟩ := okB_eq h103
                obtain ⟨x0, x1, x2⟩ := k2 e hq2
                refine j_iconst C (v := nI 0) (D 53 rfl) rfl ?_
                exact j_zret C P rfl (by first | exact Or.inl rfl | exact Or.inr rfl | assumption) (D 54 rfl) ⟨Nat.le_refl _, Nat.le_refl _⟩ (PX_e (e := e) (by rw [hft, if_neg (b2_eq h7), if_neg (b2_eq h23), cmp, hq]; show cm2 T nE k i2 o = _; rw [cm2, if_neg (by rw [hcm]; decide), hq2]) x0 x1 (((zF.tr (adv_F.mo (rP0e c))).mo (eP01 c)).tr x2))
            · have hcm : cmpo (T i2).1 = 99 := by unfold cmpo; rw [if_neg (b2_eq h52), if_neg (b2_eq h68), if_neg (b2_eq h84)]
              refine j_aload_n C (D 42 rfl) rfl ?_
              refine j_iconst C (v := nI 1) (D 43 rfl) rfl ?_
              refine j_callV C B k_X4_80 (rc_obj C (lit (kd := 4) (n := 8) rfl) rfl rfl) (c_refuse _ _ hL hN hP2.1 1) rfl rfl (Nat.ble_eq_true_of_le (by omega)) rfl ⟨Nat.le_refl _, Nat.le_refl _⟩ (D 44 rfl) ?_
              rintro r w' ⟨rfl, rfl⟩
              exact j_zret C P rfl (by first | exact Or.inl rfl | exact Or.inr rfl | assumption) (D 45 rfl) ⟨Nat.le_refl _, Nat.le_refl _⟩ (PX_e (e := fl T i2 1) (by rw [hft, if_neg (b2_eq h7), if_neg (b2_eq h23), cmp, hq]; show cm2 T nE k i2 o = _; rw [cm2, if_pos hcm]) flt0 (up2_same _ _ _ _) (Fx.up (Fx.up (zF.mo (eP01 c)) (Or.inl ⟨rfl, by omega⟩)) (Or.inl ⟨rfl, by omega⟩)))
          · refine j_bipush C (v := nI 9) (D 35 rfl) rfl ?_
            refine j_istore_n C (D 36 rfl) rfl ?_
            refine j_goto C 93 (D 37 rfl) (by decide) ?_
            have hcm : cmpo (T i2).1 = 9 := by unfold cmpo; rw [if_neg (b2_eq h52), if_pos (b2_ne h68)]
            have hlt := lt_sg hN a2 (b2_ne h68) (by decide)
            refine j_aload_n C (D 46 rfl) rfl ?_
            refine j_callV C B k_X4_77 (rc_obj C (lit (kd := 4) (n := 8) rfl) rfl rfl) (c_advance _ _ hL hN hP2.1 hlt) rfl rfl (Nat.ble_eq_true_of_le (by omega)) rfl ⟨Nat.le_refl _, Nat.le_refl _⟩ (D 47 rfl) ?_
            rintro r w' ⟨rfl, rfl⟩
            refine j_pop C (D 48 rfl) rfl ?_
            refine j_aload_n C (D 49 rfl) rfl ?_
            refine j_iload_n C (D 50 rfl) rfl ?_
            refine j_callV C B k_X4_303 (rc_obj C (lit (kd := 4) (n := 8) rfl) rfl rfl) (hsm _ _ _ _ (PC_r hc hP2 adv_F (up2_same _ _ _ _) hlt (by omega))) rfl rfl (Nat.ble_eq_true_of_le (by omega)) rfl ⟨Nat.le_refl _, Nat.le_refl _⟩ (D 51 rfl) ?_
            rintro r w' ⟨rfl, I3, rfl, k2, k3⟩
            refine j_if_ne C  108 (D 52 rfl) (by decide) (fun h103 => ?_) (fun h103 => ?_)
            · obtain ⟨⟨o2, i3⟩, hq2⟩ := okB_ne h103
              obtain ⟨⟨x0, xC⟩, xF⟩ := k3 _ hq2
              have x0 : I3 4 4 = nI i3 := x0
              have xC : CDE (up2 I2 4 4 (nI (i2 + 1))) I3 c (m + o.length) o2 := xC
              have hk := hos (i2 + 1) (by omega)
              rw [hq2] at hk
              obtain ⟨c1, c2, c3, -⟩ := hk
              obtain ⟨y1, y2, y3⟩ := lp_next (q := (9, 0)) hc hP2 zC zF x0 xC xF c2 c3
              refine j_aload_n C (D 55 rfl) rfl ?_
              refine j_getr C f_X4_25 (lit (kd := 4) (n := 8) rfl) rfl rfl hr3 (D 56 rfl) ?_
              refine j_getr C f_X4_129 (sC0 hc) rfl rfl (hL _ _ _ (rC4 hc)) (D 57 rfl) ?_
              refine j_iload_n C (D 58 rfl) rfl ?_
              refine j_iconst C (v := nI 0) (D 59 rfl) rfl ?_
              refine j_callV C B k_X4_281 (rc_obj C (sC5 hc) rfl rfl) (c_emit _ _ hc hL xC.1 (by omega) (9, 0)) rfl rfl (Nat.ble_eq_true_of_le (by omega)) rfl ⟨Nat.le_refl _, Nat.le_refl _⟩ (D 60 rfl) ?_
              rintro r w' ⟨rfl, rfl⟩
              refine j_iconst C (v := nI 1) (D 61 rfl) rfl ?_
              exact j_zret C P rfl (by first | exact Or.inl rfl | exact Or.inr rfl | assumption) (D 62 rfl) ⟨Nat.le_refl _, Nat.le_refl _⟩ (PX_o (a := (o ++ (o2 ++ [(9, 0)]), i3)) (by rw [hft, if_neg (b2_eq h7), if_neg (b2_eq h23), cmp, hq]; show cm2 T nE k i2 o = _; rw [cm2, if_neg (by rw [hcm]; decide), hq2, hcm]) ⟨y1.1.2.1, y2⟩ y3)
            · obtain ⟨e, hq2⟩ := okB_eq h103
              obtain ⟨x0, x1, x2⟩ := k2 e hq2
              refine j_iconst C (v := nI 0) (D 53 rfl) rfl ?_
              exact j_zret C P rfl (by first | exact Or.inl rfl | exact Or.inr rfl | assumption) (D 54 rfl) ⟨Nat.le_refl _, Nat.le_refl _⟩ (PX_e (e := e) (by rw [hft, if_neg (b2_eq h7), if_neg (b2_eq h23), cmp, hq]; show cm2 T nE k i2 o = _; rw [cm2, if_neg (by rw [hcm]; decide), hq2]) x0 x1 (((zF.tr (adv_F.mo (rP0e c))).mo (eP01 c)).tr x2))
        · refine j_bipush C (v := nI 8) (D 28 rfl) rfl ?_
          refine j_istore_n C (D 29 rfl) rfl ?_
          refine j_goto C 93 (D 30 rfl) (by decide) ?_
          have hcm : cmpo (T i2).1 = 8 := by unfold cmpo; rw [if_pos (b2_ne h52)]
          have hlt := lt_sg hN a2 (b2_ne h52) (by decide)
          refine j_aload_n C (D 46 rfl) rfl ?_
          refine j_callV C B k_X4_77 (rc_obj C (lit (kd := 4) (n := 8) rfl) rfl rfl) (c_advance _ _ hL hN hP2.1 hlt) rfl rfl (Nat.ble_eq_true_of_le (by omega)) rfl ⟨Nat.le_refl _, Nat.le_refl _⟩ (D 47 rfl) ?_
          rintro r w' ⟨rfl, rfl⟩
          refine j_pop C (D 48 rfl) rfl ?_
          refine j_aload_n C (D 49 rfl) rfl ?_
          refine j_iload_n C (D 50 rfl) rfl ?_
          refine j_callV C B k_X4_303 (rc_obj C (lit (kd := 4) (n := 8) rfl) rfl rfl) (hsm _ _ _ _ (PC_r hc hP2 adv_F (up2_same _ _ _ _) hlt (by omega))) rfl rfl (Nat.ble_eq_true_of_le (by omega)) rfl ⟨Nat.le_refl _, Nat.le_refl _⟩ (D 51 rfl) ?_
          rintro r w' ⟨rfl, I3, rfl, k2, k3⟩
          refine j_if_ne C  108 (D 52 rfl) (by decide) (fun h103 => ?_) (fun h103 => ?_)
          · obtain ⟨⟨o2, i3⟩, hq2⟩ := okB_ne h103
            obtain ⟨⟨x0, xC⟩, xF⟩ := k3 _ hq2
            have x0 : I3 4 4 = nI i3 := x0
            have xC : CDE (up2 I2 4 4 (nI (i2 + 1))) I3 c (m + o.length) o2 := xC
            have hk := hos (i2 + 1) (by omega)
            rw [hq2] at hk
            obtain ⟨c1, c2, c3, -⟩ := hk
            obtain ⟨y1, y2, y3⟩ := lp_next (q := (8, 0)) hc hP2 zC zF x0 xC xF c2 c3
            refine j_aload_n C (D 55 rfl) rfl ?_
            refine j_getr C f_X4_25 (lit (kd := 4) (n := 8) rfl) rfl rfl hr3 (D 56 rfl) ?_
            refine j_getr C f_X4_129 (sC0 hc) rfl rfl (hL _ _ _ (rC4 hc)) (D 57 rfl) ?_
            refine j_iload_n C (D 58 rfl) rfl ?_
            refine j_iconst C (v := nI 0) (D 59 rfl) rfl ?_
            refine j_callV C B k_X4_281 (rc_obj C (sC5 hc) rfl rfl) (c_emit _ _ hc hL xC.1 (by omega) (8, 0)) rfl rfl (Nat.ble_eq_true_of_le (by omega)) rfl ⟨Nat.le_refl _, Nat.le_refl _⟩ (D 60 rfl) ?_
            rintro r w' ⟨rfl, rfl⟩
            refine j_iconst C (v := nI 1) (D 61 rfl) rfl ?_
            exact j_zret C P rfl (by first | exact Or.inl rfl | exact Or.inr rfl | assumption) (D 62 rfl) ⟨Nat.le_refl _, Nat.le_refl _⟩ (PX_o (a := (o ++ (o2 ++ [(8, 0)]), i3)) (by rw [hft, if_neg (b2_eq h7), if_neg (b2_eq h23), cmp, hq]; show cm2 T nE k i2 o = _; rw [cm2, if_neg (by rw [hcm]; decide), hq2, hcm]) ⟨y1.1.2.1, y2⟩ y3)
          · obtain ⟨e, hq2⟩ := okB_eq h103
            obtain ⟨x0, x1, x2⟩ := k2 e hq2
            refine j_iconst C (v := nI 0) (D 53 rfl) rfl ?_
            exact j_zret C P rfl (by first | exact Or.inl rfl | exact Or.inr rfl | assumption) (D 54 rfl) ⟨Nat.le_refl _, Nat.le_refl _⟩ (PX_e (e := e) (by rw [hft, if_neg (b2_eq h7), if_neg (b2_eq h23), cmp, hq]; show cm2 T nE k i2 o = _; rw [cm2, if_neg (by rw [hcm]; decide), hq2]) x0 x1 (((zF.tr (adv_F.mo (rP0e c))).mo (eP01 c)).tr x2))
      · obtain ⟨e, hq⟩ := okB_eq h37
        obtain ⟨z0, z1, z2⟩ := k0 e hq
        refine j_iconst C (v := nI 0) (D 20 rfl) rfl ?_
        exact j_zret C P rfl (by first | exact Or.inl rfl | exact Or.inr rfl | assumption) (D 21 rfl) ⟨Nat.le_refl _, Nat.le_refl _⟩ (PX_e (e := e) (by rw [hft, if_neg (b2_eq h7), if_neg (b2_eq h23), cmp, hq]) z0 z1 z2)
    · refine j_aload_n C (D 12 rfl) rfl ?_
      refine j_iload_n C (D 13 rfl) rfl ?_
      refine j_callV C B k_X4_300 (rc_obj C (lit (kd := 4) (n := 8) rfl) rfl rfl) (c_readBracket_of (d := d - 1) _ _ hc hL hN hE hP hw (by omega) (by omega) (lt_sg hN hi1 (b2_ne h23) (by decide)) hokt hgt) rfl rfl (Nat.ble_eq_true_of_le (by omega)) rfl ⟨Nat.le_refl _, Nat.le_refl _⟩ (D 14 rfl) ?_
      rintro r w' ⟨rfl, I2, rfl, k0, k1⟩
      exact j_zret C P rfl (isB_ok _) (D 15 rfl) ⟨Nat.le_refl _, Nat.le_refl _⟩ (by rw [show ft i = (if w < 6 then thn T 36 (gt (i + 1)) else .inl (fl T i 4)) from by rw [hft, if_neg (b2_eq h7), if_pos (b2_ne h23)]]; exact PX_t k0 k1 (Fx.rf _ _) (eP01 c) (fun a h _ => h))
  · refine j_aload_n C (D 4 rfl) rfl ?_
    refine j_iload_n C (D 5 rfl) rfl ?_
    refine j_callV C B k_X4_294 (rc_obj C (lit (kd := 4) (n := 8) rfl) rfl rfl) (c_readNegation_of (d := d - 1) _ _ hc hL hN hE hP hw (by omega) (lt_sg hN hi1 (b2_ne h7) (by decide)) hok hgf) rfl rfl (Nat.ble_eq_true_of_le (by omega)) rfl ⟨Nat.le_refl _, Nat.le_refl _⟩ (D 6 rfl) ?_
    rintro r w' ⟨rfl, I2, rfl, k0, k1⟩
    exact j_zret C P rfl (isB_ok _) (D 7 rfl) ⟨Nat.le_refl _, Nat.le_refl _⟩ (by rw [show ft i = (if w < 6 then ngt (gf (i + 1)) else .inl (fl T i 4)) from by rw [hft, if_pos (b2_ne h7)]]; exact PX_t k0 k1 (Fx.rf _ _) (eP01 c) (fun a h _ => h))
/-- all of a TEST, by how many may still open -/
theorem c_readTerm (G : GT) {c : Nat} (hc : isC c) {L : Nat → Nat → Int64} {R : Nat → Nat → Option Nat} (hL : Lay R) {T : Nat → TK} {N nE : Nat} (hN : TN T N) (hE : nE ≤ 10) : ∀ k, k ≤ 6 → ∀ (l : Launch) (I : Nat → Nat → Int32) (m i : Nat), PC I R T N c nE m i → Mt l G mX4_readTerm (2 * k + 2) 0 0 [.ref (ra G 4), .int (nI (6 - k))] (wd I L R) (PX I L R (eP0 c) (eP1 c) (eO I c m) (trm T nE k i))
  | 0, _, l, I, m, i, hP => c_readTerm_of l G hc hL hN hE hP (w := 6) (d := 2) (D := 1) (tr := trm T nE 0) (gs := fun i => .inl (fl T i 4)) (by omega) (by omega) (fun i => rfl) (fun i _ => ⟨(by show 1 ≤ 4; omega), (by show 4 ≤ 4; omega)⟩) (fun z => absurd z (by omega))
  | k + 1, hk, l, I, m, i, hP => by
    have hsum : ∀ (l : Launch) (I : Nat → Nat → Int32) (m i : Nat), PC I R T N c nE m i → Mt l G mX4_readSum (2 * k + 2 + 1) 0 0 [.ref (ra G 4), .int (nI (6 - k))] (wd I L R) (PX I L R (eP0 c) (eP1 c) (eO I c m) (sq T (trm T nE k) sepS i)) := fun l I m i hP => c_readSum_of l G hc hL hN hE hP (trm_ok hN.2.1 hE k) (c_readTerm G hc hL hN hE k (by omega))
    have e1 : 6 - (k + 1) + 1 = 6 - k := by omega
    refine c_readTerm_of l G hc hL hN hE hP (w := 6 - (k + 1)) (d := 2 * (k + 1) + 2) (tr := trm T nE (k + 1)) (gs := sq T (trm T nE k) sepS) (by omega) (by omega) (fun i => ?_) (sq_ok hN.2.1 (trm_ok hN.2.1 hE k) sOK_S) (fun _ => ?_)
    · rw [trm, if_pos (show 6 - (k + 1) < 6 by omega)]
    · rw [e1, show 2 * (k + 1) + 2 - 1 = 2 * k + 2 + 1 by omega]
      exact hsum
theorem c_readSum (G : GT) {c : Nat} (hc : isC c) {L : Nat → Nat → Int64} {R : Nat → Nat → Option Nat} (hL : Lay R) {T : Nat → TK} {N nE : Nat} (hN : TN T N) (hE : nE ≤ 10) (k : Nat) (hk : k ≤ 6) (l : Launch) (I : Nat → Nat → Int32) (m i : Nat) (hP : PC I R T N c nE m i) : Mt l G mX4_readSum (2 * k + 2 + 1) 0 0 [.ref (ra G 4), .int (nI (6 - k))] (wd I L R) (PX I L R (eP0 c) (eP1 c) (eO I c m) (sm T nE k i)) :=
  c_readSum_of l G hc hL hN hE hP (trm_ok hN.2.1 hE k) (c_readTerm G hc hL hN hE k hk)
theorem c_readFact (G : GT) {c : Nat} (hc : isC c) {L : Nat → Nat → Int64} {R : Nat → Nat → Option Nat} (hL : Lay R) {T : Nat → TK} {N nE : Nat} (hN : TN T N) (hE : nE ≤ 10) : ∀ k, k ≤ 6 → ∀ (l : Launch) (I : Nat → Nat → Int32) (m i : Nat), PC I R T N c nE m i → Mt l G mX4_readFact (4 * k + 4) 0 0 [.ref (ra G 4), .int (nI (6 - k))] (wd I L R) (PX I L R (eP0 c) (eP1 c) (eO I c m) (fct T nE k i))
  | 0, _, l, I, m, i, hP => c_readFact_of l G hc hL hN hE hP (w := 6) (d := 4) (df := 1) (dt := 1) (ds := 3) (D := 1) (D2 := 1) (k := 0) (ft := fct T nE 0) (gf := fun i => .inl (fl T i 4)) (gt := fun i => .inl (fl T i 4)) (by omega) (by omega) (by omega) (by omega) (by omega) (by omega) (fun i => rfl) (fun i _ => ⟨(by show 1 ≤ 4; omega), (by show 4 ≤ 4; omega)⟩) (fun i _ => ⟨(by show 1 ≤ 4; omega), (by show 4 ≤ 4; omega)⟩) (fun z => absurd z (by omega)) (fun z => absurd z (by omega)) (c_readSum G hc hL hN hE 0 (by omega))
  | k + 1, hk, l, I, m, i, hP => by
    have hf := c_readFact G hc (L := L) hL hN hE k (by omega)
    have hsd : ∀ (l : Launch) (I : Nat → Nat → Int32) (m i : Nat), PC I R T N c nE m i → Mt l G mX4_readSide (4 * k + 4 + 1) 0 0 [.ref (ra G 4), .int (nI (6 - k))] (wd I L R) (PX I L R (eP0 c) (eP1 c) (eO I c m) (sq T (fct T nE k) sepA i)) := fun l I m i hP => c_readSide_of l G hc hL hN hE hP (fct_ok hN.2.1 hE k) hf
    have hts : ∀ (l : Launch) (I : Nat → Nat → Int32) (m i : Nat), PC I R T N c nE m i → Mt l G mX4_readTest (4 * k + 4 + 1 + 1) 0 0 [.ref (ra G 4), .int (nI (6 - k))] (wd I L R) (PX I L R (eP0 c) (eP1 c) (eO I c m) (sq T (sq T (fct T nE k) sepA) sepO i)) := fun l I m i hP => c_readTest_of l G hc hL hN hE hP (sq_ok hN.2.1 (fct_ok hN.2.1 hE k) sOK_A) hsd
    have e1 : 6 - (k + 1) + 1 = 6 - k := by omega
    refine c_readFact_of l G hc hL hN hE hP (w := 6 - (k + 1)) (d := 4 * (k + 1) + 4) (df := 4 * k + 4) (dt := 4 * k + 4 + 1 + 1) (ds := 2 * (k + 1) + 2 + 1) (k := k + 1) (ft := fct T nE (k + 1)) (gf := fct T nE k) (gt := sq T (sq T (fct T nE k) sepA) sepO) (by omega) (by omega) (by omega) (by omega) (by omega) (by omega) (fun i => ?_) (fct_ok hN.2.1 hE k) (sq_ok hN.2.1 (sq_ok hN.2.1 (fct_ok hN.2.1 hE k) sOK_A) sOK_O) (fun _ => ?_) (fun _ => ?_) (c_readSum G hc hL hN hE (k + 1) hk)
    · rw [fct, if_pos (show 6 - (k + 1) < 6 by omega), if_pos (show 6 - (k + 1) < 6 by omega)]
    · rw [e1]; exact hf
    · rw [e1]; exact hts
theorem c_readTest (G : GT) {c : Nat} (hc : isC c) {L : Nat → Nat → Int64} {R : Nat → Nat → Option Nat} (hL : Lay R) {T : Nat → TK} {N nE : Nat} (hN : TN T N) (hE : nE ≤ 10) (l : Launch) (I : Nat → Nat → Int32) (m i : Nat) (hP : PC I R T N c nE m i) : Mt l G mX4_readTest (30) 0 0 [.ref (ra G 4), .int (nI 0)] (wd I L R) (PX I L R (eP0 c) (eP1 c) (eO I c m) (tst T nE 6 i)) :=
  c_readTest_of l G hc hL hN hE hP (sd_ok hN.2.1 hE 6) (fun l I m i hP => c_readSide_of l G hc hL hN hE hP (fct_ok hN.2.1 hE 6) (c_readFact G hc hL hN hE 6 (by omega)))

set_option maxRecDepth 20000 in
theorem d_readFact_of (l : Launch) (G : GT) {I : Nat → Nat → Int32} {L : Nat → Nat → Int64} {R : Nat → Nat → Option Nat} (hL : Lay R) {f : Nat → Int32} {n N nE m d i : Nat} (hb : BY f n) (hN : TN (tok f n) N) (hE : nE ≤ 10) (hP : PMx I f n N nE m d i) {D Df Dt Ds DD D2 k : Nat} (hd6 : d ≤ 6) (hD : 7 ≤ D) (hDf : Df + 1 ≤ D) (hDt : Dt + 1 ≤ D) (hDs : Ds + 1 ≤ D) {ft gf gt : Nat → RE} (hft : ∀ i, ft i = if (tok f n i).1 = 22 then (if d < 6 then ngt (gf (i + 1)) else .inl (fl (tok f n) i 4)) else if (tok f n i).1 = 35 then (if d < 6 then thn (tok f n) 36 (gt (i + 1)) else .inl (fl (tok f n) i 4)) else cmp (tok f n) nE k i) (hok : OKR N nE true DD gf) (hokt : OKR N nE true D2 gt) (hgf : d < 6 → ∀ (l : Launch) (I : Nat → Nat → Int32) (m i : Nat), PMx I f n N nE m (d + 1) i → Mt l G mX12_readFact Df 0 0 [.ref (ra G 172)] (wd I L R) (MX I L R xP (mO I f n m (d + 1)) (gf i))) (hgt : d < 6 → ∀ (l : Launch) (I : Nat → Nat → Int32) (m i : Nat), PMx I f n N nE m (d + 1) i → Mt l G mX12_readTest Dt 0 0 [.ref (ra G 172)] (wd I L R) (MX I L R xP (mO I f n m (d + 1)) (gt i))) (hsm : ∀ (l : Launch) (I : Nat → Nat → Int32) (m i : Nat), PMx I f n N nE m d i → Mt l G mX12_readSum Ds 0 0 [.ref (ra G 172)] (wd I L R) (MX I L R xP (mO I f n m d) (sm (tok f n) nE k i))) : Mt l G mX12_readFact (D) 0 0 [.ref (ra G 172)] (wd I L R) (MX I L R xP (mO I f n m d) (ft i)) := by
  refine mt_of (own := RX12) (by decide) rfl rfl (fun Z C P B => ?_)
  have D := @dc_of _ _ dX12_readFact
  have hn := hb.1
  have hN1 := hN.1
  have hi1 := hP.2.2.2.2.1
  have hm1 := hP.2.2.2.1
  have hos := sm_ok (nE := nE) hN.2.1 hE k
  refine j_aload_n C (D 0 rfl) rfl ?_
  refine j_ldcS C (i := 16) (by decide) rfl (D 1 rfl) ?_
  refine j_cVp C B k_X12_154 (rc_obj C (lit (kd := 12) (n := 48) rfl) rfl rfl) (d_isWord _ _ hL hb hP.1 hP.2.1 16 (by decide)) rfl rfl (Nat.ble_eq_true_of_le (by omega)) rfl ⟨Nat.le_refl _, Nat.le_refl _⟩ (D 2 rfl) ?_
  refine j_if_eq C  37 (D 3 rfl) (by decide) (fun h6 => ?_) (fun h6 => ?_)
  · have n22 : ¬ (tok f n i).1 = 22 := b2_eq h6
    refine j_aload_n C (D 19 rfl) rfl ?_
    refine j_bipush C (v := nI 91) (D 20 rfl) rfl ?_
    refine j_cVp C B k_X12_161 (rc_obj C (lit (kd := 12) (n := 48) rfl) rfl rfl) (d_isByte _ _ hL hb hP.1 hP.2.1 (s := 35) (v := 91) (by decide) (by decide) (by decide) (by decide)) rfl rfl (Nat.ble_eq_true_of_le (by omega)) rfl ⟨Nat.le_refl _, Nat.le_refl _⟩ (D 21 rfl) ?_
    refine j_if_eq C  73 (D 22 rfl) (by decide) (fun h43 => ?_) (fun h43 => ?_)
    · have n35 : ¬ (tok f n i).1 = 35 := b2_eq h43
      refine j_aload_n C (D 37 rfl) rfl ?_
      refine j_callV C B k_X12_226 (rc_obj C (lit (kd := 12) (n := 48) rfl) rfl rfl) (hsm _ _ _ _ hP) rfl rfl (Nat.ble_eq_true_of_le (by omega)) rfl ⟨Nat.le_refl _, Nat.le_refl _⟩ (D 38 rfl) ?_
      rintro r w' ⟨rfl, I2, rfl, F2, k0, k1⟩
      obtain ⟨e, hq⟩ | ⟨⟨o, i2⟩, hq⟩ := rs_c (sm (tok f n) nE k i)
      · obtain ⟨e0, e1⟩ := k0 e hq
        have hk := hos i hi1
        rw [hq] at hk
        have hd : ¬ I2 172 34 = 0 := dd_of e0 hk
        refine j_aload_n C (D 39 rfl) rfl ?_
        refine j_bipush C (v := nI 60) (D 40 rfl) rfl ?_
        refine j_cVp C B k_X12_161 (rc_obj C (lit (kd := 12) (n := 48) rfl) rfl rfl) (d_isByteF _ _ hL hd _) rfl rfl (Nat.ble_eq_true_of_le (by omega)) rfl ⟨Nat.le_refl _, Nat.le_refl _⟩ (D 41 rfl) ?_
        refine j_if_eq C  91 (D 42 rfl) (by decide) (fun h83 => ?_) (fun h83 => absurd h83 (fun z => z rfl))
        refine j_aload_n C (D 45 rfl) rfl ?_
        refine j_bipush C (v := nI 61) (D 46 rfl) rfl ?_
        refine j_cVp C B k_X12_161 (rc_obj C (lit (kd := 12) (n := 48) rfl) rfl rfl) (d_isByteF _ _ hL hd _) rfl rfl (Nat.ble_eq_true_of_le (by omega)) rfl ⟨Nat.le_refl _, Nat.le_refl _⟩ (D 47 rfl) ?_
        refine j_if_eq C  105 (D 48 rfl) (by decide) (fun h97 => ?_) (fun h97 => absurd h97 (fun z => z rfl))
        refine j_aload_n C (D 51 rfl) rfl ?_
        refine j_bipush C (v := nI 62) (D 52 rfl) rfl ?_
        refine j_cVp C B k_X12_161 (rc_obj C (lit (kd := 12) (n := 48) rfl) rfl rfl) (d_isByteF _ _ hL hd _) rfl rfl (Nat.ble_eq_true_of_le (by omega)) rfl ⟨Nat.le_refl _, Nat.le_refl _⟩ (D 53 rfl) ?_
        refine j_if_eq C  119 (D 54 rfl) (by decide) (fun h111 => ?_) (fun h111 => absurd h111 (fun z => z rfl))
        refine j_iconst C (v := (-1)) (D 57 rfl) (by decide) ?_
        refine j_istore_n C (D 58 rfl) rfl ?_
        refine j_iload_n C (D 59 rfl) rfl ?_
        refine j_iconst C (v := (-1)) (D 60 rfl) (by decide) ?_
        refine j_icmp_ne C  135 (D 61 rfl) (by decide) (fun h123 => absurd h123 (fun z => z rfl)) (fun h123 => ?_)
        refine j_aload_n C (D 62 rfl) rfl ?_
        refine j_iconst C (v := nI 1) (D 63 rfl) rfl ?_
        refine j_aload_n C (D 64 rfl) rfl ?_
        refine j_geti C f_X12_120 (lit (kd := 12) (n := 48) rfl) rfl rfl (D 65 rfl) ?_
        refine j_callV C B k_X12_168 (rc_obj C (lit (kd := 12) (n := 48) rfl) rfl rfl) (d_errsF _ _ hL hd _ _) rfl rfl (Nat.ble_eq_true_of_le (by omega)) rfl ⟨Nat.le_refl _, Nat.le_refl _⟩ (D 66 rfl) ?_
        rintro r w' ⟨rfl, rfl⟩
        refine j_aload_n C (D 67 rfl) rfl ?_
        refine j_cVp C B k_X12_106 (rc_obj C (lit (kd := 12) (n := 48) rfl) rfl rfl) (d_goodF _ _ hL hd) rfl rfl (Nat.ble_eq_true_of_le (by omega)) rfl ⟨Nat.le_refl _, Nat.le_refl _⟩ (D 68 rfl) ?_
        refine j_if_ne C  143 (D 69 rfl) (by decide) (fun h139 => absurd h139 (fun z => z rfl)) (fun h139 => ?_)
        exact j_vret C P rfl (D 70 rfl) ⟨Nat.le_refl _, Nat.le_refl _⟩ (MX_e (e := e) (by rw [hft, if_neg n22, if_neg n35, cmp, hq]) F2 e0 e1)
      · obtain ⟨g0, g1, g2, g3, g4⟩ := k1 _ hq
        have g2 : MS I2 f n i2 := g2
        have hk := hos i hi1
        rw [hq] at hk
        obtain ⟨a1, a2, a3, -⟩ := hk
        have hP2 := PM_go hP F2 g2 g0 g3 (by have := g3.1; show m + o.length ≤ i2; omega) a2 g4
        refine j_aload_n C (D 39 rfl) rfl ?_
        refine j_bipush C (v := nI 60) (D 40 rfl) rfl ?_
        refine j_cVp C B k_X12_161 (rc_obj C (lit (kd := 12) (n := 48) rfl) rfl rfl) (d_isByte _ _ hL hb hP2.1 hP2.2.1 (s := 30) (v := 60) (by decide) (by decide) (by decide) (by decide)) rfl rfl (Nat.ble_eq_true_of_le (by omega)) rfl ⟨Nat.le_refl _, Nat.le_refl _⟩ (D 41 rfl) ?_
        refine j_if_eq C  91 (D 42 rfl) (by decide) (fun h83 => ?_) (fun h83 => ?_)
        · refine j_aload_n C (D 45 rfl) rfl ?_
          refine j_bipush C (v := nI 61) (D 46 rfl) rfl ?_
          refine j_cVp C B k_X12_161 (rc_obj C (lit (kd := 12) (n := 48) rfl) rfl rfl) (d_isByte _ _ hL hb hP2.1 hP2.2.1 (s := 31) (v := 61) (by decide) (by decide) (by decide) (by decide)) rfl rfl (Nat.ble_eq_true_of_le (by omega)) rfl ⟨Nat.le_refl _, Nat.le_refl _⟩ (D 47 rfl) ?_
          refine j_if_eq C  105 (D 48 rfl) (by decide) (fun h97 => ?_) (fun h97 => ?_)
          · refine j_aload_n C (D 51 rfl) rfl ?_
            refine j_bipush C (v := nI 62) (D 52 rfl) rfl ?_
            refine j_cVp C B k_X12_161 (rc_obj C (lit (kd := 12) (n := 48) rfl) rfl rfl) (d_isByte _ _ hL hb hP2.1 hP2.2.1 (s := 32) (v := 62) (by decide) (by decide) (by decide) (by decide)) rfl rfl (Nat.ble_eq_true_of_le (by omega)) rfl ⟨Nat.le_refl _, Nat.le_refl _⟩ (D 53 rfl) ?_
            refine j_if_eq C  119 (D 54 rfl) (by decide) (fun h111 => ?_) (fun h111 => ?_)
            · refine j_iconst C (v := (-1)) (D 57 rfl) (by decide) ?_
              have hcm : cmpo (tok f n i2).1 = 99 := by unfold cmpo; rw [if_neg (b2_eq h83), if_neg (b2_eq h97), if_neg (b2_eq h111)]
              refine j_istore_n C (D 58 rfl) rfl ?_
              refine j_iload_n C (D 59 rfl) rfl ?_
              refine j_iconst C (v := (-1)) (D 60 rfl) (by decide) ?_
              refine j_icmp_ne C  135 (D 61 rfl) (by decide) (fun h123 => absurd h123 (fun z => z rfl)) (fun h123 => ?_)
              refine j_aload_n C (D 62 rfl) rfl ?_
              refine j_iconst C (v := nI 1) (D 63 rfl) rfl ?_
              refine j_aload_n C (D 64 rfl) rfl ?_
              refine j_geti C f_X12_120 (lit (kd := 12) (n := 48) rfl) rfl rfl (D 65 rfl) ?_
              rw [hP2.1.2.1]
              refine j_callV C B k_X12_168 (rc_obj C (lit (kd := 12) (n := 48) rfl) rfl rfl) (d_errsT _ _ hL hP2.2.1 _ _) rfl rfl (Nat.ble_eq_true_of_le (by omega)) rfl ⟨Nat.le_refl _, Nat.le_refl _⟩ (D 66 rfl) ?_
              rintro r w' ⟨rfl, rfl⟩
              have hdd : ¬ up2 (up2 I2 172 34 (nI 1)) 172 35 (nI (spo f n i2)) 172 34 = 0 := dd_of (k := 1) (by rw [up2_i (by omega), up2_same]) (by omega)
              refine j_aload_n C (D 67 rfl) rfl ?_
              refine j_cVp C B k_X12_106 (rc_obj C (lit (kd := 12) (n := 48) rfl) rfl rfl) (d_goodF _ _ hL hdd) rfl rfl (Nat.ble_eq_true_of_le (by omega)) rfl ⟨Nat.le_refl _, Nat.le_refl _⟩ (D 68 rfl) ?_
              refine j_if_ne C  143 (D 69 rfl) (by decide) (fun h139 => absurd h139 (fun z => z rfl)) (fun h139 => ?_)
              exact j_vret C P rfl (D 70 rfl) ⟨Nat.le_refl _, Nat.le_refl _⟩ (MX_e (e := fl (tok f n) i2 1) (by rw [hft, if_neg n22, if_neg n35, cmp, hq]; show cm2 (tok f n) nE k i2 o = _; rw [cm2, if_pos hcm]) (Fx.up (Fx.up F2 (Or.inl ⟨rfl, by omega⟩)) (Or.inl ⟨rfl, by omega⟩)) (by rw [up2_i (by omega), up2_same]; rfl) (by rw [up2_same]; show _ = nI (tok f n i2).2.1; rw [tok_2]))
            · refine j_bipush C (v := nI 10) (D 55 rfl) rfl ?_
              refine j_goto C 120 (D 56 rfl) (by decide) ?_
              have hs : (tok f n i2).1 = 32 := b2_ne h111
              have hcm : cmpo (tok f n i2).1 = 10 := by rw [hs]; rfl
              have hlt := lt_sg hN a2 hs (by decide)
              refine j_istore_n C (D 58 rfl) rfl ?_
              refine j_iload_n C (D 59 rfl) rfl ?_
              refine j_iconst C (v := (-1)) (D 60 rfl) (by decide) ?_
              refine j_icmp_ne C  135 (D 61 rfl) (by decide) (fun h123 => ?_) (fun h123 => absurd h123 (by decide))
              refine j_aload_n C (D 67 rfl) rfl ?_
              refine j_cVp C B k_X12_106 (rc_obj C (lit (kd := 12) (n := 48) rfl) rfl rfl) (d_goodT _ _ hL hP2.2.1) rfl rfl (Nat.ble_eq_true_of_le (by omega)) rfl ⟨Nat.le_refl _, Nat.le_refl _⟩ (D 68 rfl) ?_
              refine j_if_ne C  143 (D 69 rfl) (by decide) (fun h139 => ?_) (fun h139 => absurd h139 (by decide))
              refine j_aload_n C (D 71 rfl) rfl ?_
              refine j_callV C B k_X12_158 (rc_obj C (lit (kd := 12) (n := 48) rfl) rfl rfl) (d_advance _ _ hL hb hP2.1 (tok_lt_n (by rw [hs]; decide))) rfl rfl (Nat.ble_eq_true_of_le (by omega)) rfl ⟨Nat.le_refl _, Nat.le_refl _⟩ (D 72 rfl) ?_
              rintro r w' ⟨rfl, I7, rfl, F7, S7⟩
              have hP7 := PM_a hP2 F7 S7 (by omega) hlt
              refine j_aload_n C (D 73 rfl) rfl ?_
              refine j_callV C B k_X12_226 (rc_obj C (lit (kd := 12) (n := 48) rfl) rfl rfl) (hsm _ _ _ _ hP7) rfl rfl (Nat.ble_eq_true_of_le (by omega)) rfl ⟨Nat.le_refl _, Nat.le_refl _⟩ (D 74 rfl) ?_
              rintro r w' ⟨rfl, I8, rfl, F8, k4, k5⟩
              obtain ⟨e, hq8⟩ | ⟨⟨o8, i8⟩, hq8⟩ := rs_c (sm (tok f n) nE k (i2 + 1))
              · obtain ⟨e0, e1⟩ := k4 e hq8
                have hk := hos (i2 + 1) (by omega)
                rw [hq8] at hk
                have hd : ¬ I8 172 34 = 0 := dd_of e0 hk
                refine j_aload_n C (D 75 rfl) rfl ?_
                refine j_iload_n C (D 76 rfl) rfl ?_
                refine j_iconst C (v := nI 0) (D 77 rfl) rfl ?_
                refine j_callV C B k_X12_218 (rc_obj C (lit (kd := 12) (n := 48) rfl) rfl rfl) (d_putsF _ _ hL hd _ _) rfl rfl (Nat.ble_eq_true_of_le (by omega)) rfl ⟨Nat.le_refl _, Nat.le_refl _⟩ (D 78 rfl) ?_
                rintro r w' ⟨rfl, rfl⟩
                exact j_vret C P rfl (D 79 rfl) ⟨Nat.le_refl _, Nat.le_refl _⟩ (MX_e (e := e) (by rw [hft, if_neg n22, if_neg n35, cmp, hq]; show cm2 (tok f n) nE k i2 o = _; rw [cm2, if_neg (by rw [hcm]; decide), hq8]) ((F2.tr (F7.mo aPx)).tr F8) e0 e1)
              · obtain ⟨x0, x1, x2, x3, x4⟩ := k5 _ hq8
                have x2 : MS I8 f n i8 := x2
                have x3 : CDM I7 I8 (m + o.length) o8 := x3
                have hk := hos (i2 + 1) (by omega)
                rw [hq8] at hk
                obtain ⟨c1, c2, c3, -⟩ := hk
                refine j_aload_n C (D 75 rfl) rfl ?_
                refine j_iload_n C (D 76 rfl) rfl ?_
                refine j_iconst C (v := nI 0) (D 77 rfl) rfl ?_
                refine j_callV C B k_X12_218 (rc_obj C (lit (kd := 12) (n := 48) rfl) rfl rfl) (d_puts _ _ hL x0 x3.1 (by omega) (10, 0)) rfl rfl (Nat.ble_eq_true_of_le (by omega)) rfl ⟨Nat.le_refl _, Nat.le_refl _⟩ (D 78 rfl) ?_
                rintro r w' ⟨rfl, rfl⟩
                exact j_vret C P rfl (D 79 rfl) ⟨Nat.le_refl _, Nat.le_refl _⟩ (MX_o (a := (o ++ (o8 ++ [(10, 0)]), i8)) (by rw [hft, if_neg n22, if_neg n35, cmp, hq]; show cm2 (tok f n) nE k i2 o = _; rw [cm2, if_neg (by rw [hcm]; decide), hq8, hcm]) (((F2.tr (F7.mo aPx)).tr F8).tr put_F) (by rw [up2_i (by omega), up2_i (by omega)]; exact x0) (by rw [up2_i (by omega), up2_i (by omega), x1, F7 _ _ (fun z => by unfold aP at z; omega)]; exact g1) ⟨MS_pt x2, CDM_app g3 (CDM_app (CDM_l F7 aN x3) CDM_put), by rw [up2_i (by omega), up2_i (by omega)]; exact x4⟩)
          · refine j_bipush C (v := nI 9) (D 49 rfl) rfl ?_
            refine j_goto C 120 (D 50 rfl) (by decide) ?_
            have hs : (tok f n i2).1 = 31 := b2_ne h97
            have hcm : cmpo (tok f n i2).1 = 9 := by rw [hs]; rfl
            have hlt := lt_sg hN a2 hs (by decide)
            refine j_istore_n C (D 58 rfl) rfl ?_
            refine j_iload_n C (D 59 rfl) rfl ?_
            refine j_iconst C (v := (-1)) (D 60 rfl) (by decide) ?_
            refine j_icmp_ne C  135 (D 61 rfl) (by decide) (fun h123 => ?_) (fun h123 => absurd h123 (by decide))
            refine j_aload_n C (D 67 rfl) rfl ?_
            refine j_cVp C B k_X12_106 (rc_obj C (lit (kd := 12) (n := 48) rfl) rfl rfl) (d_goodT _ _ hL hP2.2.1) rfl rfl (Nat.ble_eq_true_of_le (by omega)) rfl ⟨Nat.le_refl _, Nat.le_refl _⟩ (D 68 rfl) ?_
            refine j_if_ne C  143 (D 69 rfl) (by decide) (fun h139 => ?_) (fun h139 => absurd h139 (by decide))
            refine j_aload_n C (D 71 rfl) rfl ?_
            refine j_callV C B k_X12_158 (rc_obj C (lit (kd := 12) (n := 48) rfl) rfl rfl) (d_advance _ _ hL hb hP2.1 (tok_lt_n (by rw [hs]; decide))) rfl rfl (Nat.ble_eq_true_of_le (by omega)) rfl ⟨Nat.le_refl _, Nat.le_refl _⟩ (D 72 rfl) ?_
            rintro r w' ⟨rfl, I7, rfl, F7, S7⟩
            have hP7 := PM_a hP2 F7 S7 (by omega) hlt
            refine j_aload_n C (D 73 rfl) rfl ?_
            refine j_callV C B k_X12_226 (rc_obj C (lit (kd := 12) (n := 48) rfl) rfl rfl) (hsm _ _ _ _ hP7) rfl rfl (Nat.ble_eq_true_of_le (by omega)) rfl ⟨Nat.le_refl _, Nat.le_refl _⟩ (D 74 rfl) ?_
            rintro r w' ⟨rfl, I8, rfl, F8, k4, k5⟩
            obtain ⟨e, hq8⟩ | ⟨⟨o8, i8⟩, hq8⟩ := rs_c (sm (tok f n) nE k (i2 + 1))
            · obtain ⟨e0, e1⟩ := k4 e hq8
              have hk := hos (i2 + 1) (by omega)
              rw [hq8] at hk
              have hd : ¬ I8 172 34 = 0 := dd_of e0 hk
              refine j_aload_n C (D 75 rfl) rfl ?_
              refine j_iload_n C (D 76 rfl) rfl ?_
              refine j_iconst C (v := nI 0) (D 77 rfl) rfl ?_
              refine j_callV C B k_X12_218 (rc_obj C (lit (kd := 12) (n := 48) rfl) rfl rfl) (d_putsF _ _ hL hd _ _) rfl rfl (Nat.ble_eq_true_of_le (by omega)) rfl ⟨Nat.le_refl _, Nat.le_refl _⟩ (D 78 rfl) ?_
              rintro r w' ⟨rfl, rfl⟩
              exact j_vret C P rfl (D 79 rfl) ⟨Nat.le_refl _, Nat.le_refl _⟩ (MX_e (e := e) (by rw [hft, if_neg n22, if_neg n35, cmp, hq]; show cm2 (tok f n) nE k i2 o = _; rw [cm2, if_neg (by rw [hcm]; decide), hq8]) ((F2.tr (F7.mo aPx)).tr F8) e0 e1)
            · obtain ⟨x0, x1, x2, x3, x4⟩ := k5 _ hq8
              have x2 : MS I8 f n i8 := x2
              have x3 : CDM I7 I8 (m + o.length) o8 := x3
              have hk := hos (i2 + 1) (by omega)
              rw [hq8] at hk
              obtain ⟨c1, c2, c3, -⟩ := hk
              refine j_aload_n C (D 75 rfl) rfl ?_
              refine j_iload_n C (D 76 rfl) rfl ?_
              refine j_iconst C (v := nI 0) (D 77 rfl) rfl ?_
              refine j_callV C B k_X12_218 (rc_obj C (lit (kd := 12) (n := 48) rfl) rfl rfl) (d_puts _ _ hL x0 x3.1 (by omega) (9, 0)) rfl rfl (Nat.ble_eq_true_of_le (by omega)) rfl ⟨Nat.le_refl _, Nat.le_refl _⟩ (D 78 rfl) ?_
              rintro r w' ⟨rfl, rfl⟩
              exact j_vret C P rfl (D 79 rfl) ⟨Nat.le_refl _, Nat.le_refl _⟩ (MX_o (a := (o ++ (o8 ++ [(9, 0)]), i8)) (by rw [hft, if_neg n22, if_neg n35, cmp, hq]; show cm2 (tok f n) nE k i2 o = _; rw [cm2, if_neg (by rw [hcm]; decide), hq8, hcm]) (((F2.tr (F7.mo aPx)).tr F8).tr put_F) (by rw [up2_i (by omega), up2_i (by omega)]; exact x0) (by rw [up2_i (by omega), up2_i (by omega), x1, F7 _ _ (fun z => by unfold aP at z; omega)]; exact g1) ⟨MS_pt x2, CDM_app g3 (CDM_app (CDM_l F7 aN x3) CDM_put), by rw [up2_i (by omega), up2_i (by omega)]; exact x4⟩)
        · refine j_bipush C (v := nI 8) (D 43 rfl) rfl ?_
          refine j_goto C 120 (D 44 rfl) (by decide) ?_
          have hs : (tok f n i2).1 = 30 := b2_ne h83
          have hcm : cmpo (tok f n i2).1 = 8 := by rw [hs]; rfl
          have hlt := lt_sg hN a2 hs (by decide)
          refine j_istore_n C (D 58 rfl) rfl ?_
          refine j_iload_n C (D 59 rfl) rfl ?_
          refine j_iconst C (v := (-1)) (D 60 rfl) (by decide) ?_
          refine j_icmp_ne C  135 (D 61 rfl) (by decide) (fun h123 => ?_) (fun h123 => absurd h123 (by decide))
          refine j_aload_n C (D 67 rfl) rfl ?_
          refine j_cVp C B k_X12_106 (rc_obj C (lit (kd := 12) (n := 48) rfl) rfl rfl) (d_goodT _ _ hL hP2.2.1) rfl rfl (Nat.ble_eq_true_of_le (by omega)) rfl ⟨Nat.le_refl _, Nat.le_refl _⟩ (D 68 rfl) ?_
          refine j_if_ne C  143 (D 69 rfl) (by decide) (fun h139 => ?_) (fun h139 => absurd h139 (by decide))
          refine j_aload_n C (D 71 rfl) rfl ?_
          refine j_callV C B k_X12_158 (rc_obj C (lit (kd := 12) (n := 48) rfl) rfl rfl) (d_advance _ _ hL hb hP2.1 (tok_lt_n (by rw [hs]; decide))) rfl rfl (Nat.ble_eq_true_of_le (by omega)) rfl ⟨Nat.le_refl _, Nat.le_refl _⟩ (D 72 rfl) ?_
          rintro r w' ⟨rfl, I7, rfl, F7, S7⟩
          have hP7 := PM_a hP2 F7 S7 (by omega) hlt
          refine j_aload_n C (D 73 rfl) rfl ?_
          refine j_callV C B k_X12_226 (rc_obj C (lit (kd := 12) (n := 48) rfl) rfl rfl) (hsm _ _ _ _ hP7) rfl rfl (Nat.ble_eq_true_of_le (by omega)) rfl ⟨Nat.le_refl _, Nat.le_refl _⟩ (D 74 rfl) ?_
          rintro r w' ⟨rfl, I8, rfl, F8, k4, k5⟩
          obtain ⟨e, hq8⟩ | ⟨⟨o8, i8⟩, hq8⟩ := rs_c (sm (tok f n) nE k (i2 + 1))
          · obtain ⟨e0, e1⟩ := k4 e hq8
            have hk := hos (i2 + 1) (by omega)
            rw [hq8] at hk
            have hd : ¬ I8 172 34 = 0 := dd_of e0 hk
            refine j_aload_n C (D 75 rfl) rfl ?_
            refine j_iload_n C (D 76 rfl) rfl ?_
            refine j_iconst C (v := nI 0) (D 77 rfl) rfl ?_
            refine j_callV C B k_X12_218 (rc_obj C (lit (kd := 12) (n := 48) rfl) rfl rfl) (d_putsF _ _ hL hd _ _) rfl rfl (Nat.ble_eq_true_of_le (by omega)) rfl ⟨Nat.le_refl _, Nat.le_refl _⟩ (D 78 rfl) ?_
            rintro r w' ⟨rfl, rfl⟩
            exact j_vret C P rfl (D 79 rfl) ⟨Nat.le_refl _, Nat.le_refl _⟩ (MX_e (e := e) (by rw [hft, if_neg n22, if_neg n35, cmp, hq]; show cm2 (tok f n) nE k i2 o = _; rw [cm2, if_neg (by rw [hcm]; decide), hq8]) ((F2.tr (F7.mo aPx)).tr F8) e0 e1)
          · obtain ⟨x0, x1, x2, x3, x4⟩ := k5 _ hq8
            have x2 : MS I8 f n i8 := x2
            have x3 : CDM I7 I8 (m + o.length) o8 := x3
            have hk := hos (i2 + 1) (by omega)
            rw [hq8] at hk
            obtain ⟨c1, c2, c3, -⟩ := hk
            refine j_aload_n C (D 75 rfl) rfl ?_
            refine j_iload_n C (D 76 rfl) rfl ?_
            refine j_iconst C (v := nI 0) (D 77 rfl) rfl ?_
            refine j_callV C B k_X12_218 (rc_obj C (lit (kd := 12) (n := 48) rfl) rfl rfl) (d_puts _ _ hL x0 x3.1 (by omega) (8, 0)) rfl rfl (Nat.ble_eq_true_of_le (by omega)) rfl ⟨Nat.le_refl _, Nat.le_refl _⟩ (D 78 rfl) ?_
            rintro r w' ⟨rfl, rfl⟩
            exact j_vret C P rfl (D 79 rfl) ⟨Nat.le_refl _, Nat.le_refl _⟩ (MX_o (a := (o ++ (o8 ++ [(8, 0)]), i8)) (by rw [hft, if_neg n22, if_neg n35, cmp, hq]; show cm2 (tok f n) nE k i2 o = _; rw [cm2, if_neg (by rw [hcm]; decide), hq8, hcm]) (((F2.tr (F7.mo aPx)).tr F8).tr put_F) (by rw [up2_i (by omega), up2_i (by omega)]; exact x0) (by rw [up2_i (by omega), up2_i (by omega), x1, F7 _ _ (fun z => by unfold aP at z; omega)]; exact g1) ⟨MS_pt x2, CDM_app g3 (CDM_app (CDM_l F7 aN x3) CDM_put), by rw [up2_i (by omega), up2_i (by omega)]; exact x4⟩)
    · have h35 : (tok f n i).1 = 35 := b2_ne h43
      have hlt := lt_sg hN hi1 h35 (by decide)
      have hsn : spo f n i < n := tok_lt_n (by rw [h35]; decide)
      refine j_aload_n C (D 23 rfl) rfl ?_
      refine j_callV C B k_X12_223 (rc_obj C (lit (kd := 12) (n := 48) rfl) rfl rfl) (d_opens _ _ hL hb hP.1 hP.2.1 hsn hP.2.2.2.2.2.1 hd6) rfl rfl (Nat.ble_eq_true_of_le (by omega)) rfl ⟨Nat.le_refl _, Nat.le_refl _⟩ (D 24 rfl) ?_
      rintro r w' ⟨rfl, I3, rfl, F3, k0, k1⟩
      obtain ⟨e, hqo⟩ | ⟨j0, hqo⟩ := rs_c (if d < 6 then (.inr (i + 1) : RS Nat) else .inl (fl (tok f n) i 4))
      · have hd6n : ¬ d < 6 := fun z => by rw [if_pos z] at hqo; cases hqo
        rw [if_neg hd6n] at hqo
        obtain ⟨e0, e1⟩ := k0 e (by rw [if_neg hd6n]; exact hqo)
        cases hqo
        have hd : ¬ I3 172 34 = 0 := dd_of e0 ⟨(by show 1 ≤ 4; omega), (by show 4 ≤ 4; omega)⟩
        refine j_aload_n C (D 25 rfl) rfl ?_
        refine j_callV C B k_X12_245 (rc_obj C (lit (kd := 12) (n := 48) rfl) rfl rfl) (d_readTestF _ _ hL hd) rfl rfl (Nat.ble_eq_true_of_le (by omega)) rfl ⟨Nat.le_refl _, Nat.le_refl _⟩ (D 26 rfl) ?_
        rintro r w' ⟨rfl, rfl⟩
        refine j_aload_n C (D 27 rfl) rfl ?_
        refine j_bipush C (v := nI 93) (D 28 rfl) rfl ?_
        refine j_callV C B k_X12_181 (rc_obj C (lit (kd := 12) (n := 48) rfl) rfl rfl) (d_passesByteF _ _ hL hd _) rfl rfl (Nat.ble_eq_true_of_le (by omega)) rfl ⟨Nat.le_refl _, Nat.le_refl _⟩ (D 29 rfl) ?_
        rintro r w' ⟨rfl, rfl⟩
        refine j_aload_n C (D 30 rfl) rfl ?_
        refine j_dup C (D 31 rfl) rfl ?_
        refine j_geti C f_X12_215 (lit (kd := 12) (n := 48) rfl) rfl rfl (D 32 rfl) ?_
        refine j_iconst C (v := nI 1) (D 33 rfl) rfl ?_
        refine j_isub C (D 34 rfl) ?_
        refine j_puti C f_X12_215 (lit (kd := 12) (n := 48) rfl) rfl rfl (D 35 rfl) ?_
        refine j_goto C 157 (D 36 rfl) (by decide) ?_
        exact j_vret C P rfl (D 79 rfl) ⟨Nat.le_refl _, Nat.le_refl _⟩ (MX_e (e := fl (tok f n) i 4) (by rw [hft, if_neg n22, if_pos h35, if_neg hd6n]) ((F3.mo oPx).tr (d3F.mo d3x)) (by rw [up2_i (by omega)]; exact e0) (by rw [up2_i (by omega)]; exact e1))
      · have hd6n : d < 6 := by
          by_cases z : d < 6
          · exact z
          · rw [if_neg z] at hqo; cases hqo
        obtain ⟨u0, u1, u2, u3⟩ := k1 (i + 1) (by rw [if_pos hd6n])
        have hP3 := PM_n hP F3 u2 u0 u3 (by omega) hlt
        refine j_aload_n C (D 25 rfl) rfl ?_
        refine j_callV C B k_X12_245 (rc_obj C (lit (kd := 12) (n := 48) rfl) rfl rfl) (hgt hd6n _ _ _ _ hP3) rfl rfl (Nat.ble_eq_true_of_le (by omega)) rfl ⟨Nat.le_refl _, Nat.le_refl _⟩ (D 26 rfl) ?_
        rintro r w' ⟨rfl, I4, rfl, F4, k0, k1⟩
        obtain ⟨e, hq⟩ | ⟨⟨o, i2⟩, hq⟩ := rs_c (gt (i + 1))
        · obtain ⟨e0, e1⟩ := k0 e hq
          have hk := hokt (i + 1) (by omega)
          rw [hq] at hk
          have hd : ¬ I4 172 34 = 0 := dd_of e0 hk
          refine j_aload_n C (D 27 rfl) rfl ?_
          refine j_bipush C (v := nI 93) (D 28 rfl) rfl ?_
          refine j_callV C B k_X12_181 (rc_obj C (lit (kd := 12) (n := 48) rfl) rfl rfl) (d_passesByteF _ _ hL hd _) rfl rfl (Nat.ble_eq_true_of_le (by omega)) rfl ⟨Nat.le_refl _, Nat.le_refl _⟩ (D 29 rfl) ?_
          rintro r w' ⟨rfl, rfl⟩
          refine j_aload_n C (D 30 rfl) rfl ?_
          refine j_dup C (D 31 rfl) rfl ?_
          refine j_geti C f_X12_215 (lit (kd := 12) (n := 48) rfl) rfl rfl (D 32 rfl) ?_
          refine j_iconst C (v := nI 1) (D 33 rfl) rfl ?_
          refine j_isub C (D 34 rfl) ?_
          refine j_puti C f_X12_215 (lit (kd := 12) (n := 48) rfl) rfl rfl (D 35 rfl) ?_
          refine j_goto C 157 (D 36 rfl) (by decide) ?_
          exact j_vret C P rfl (D 79 rfl) ⟨Nat.le_refl _, Nat.le_refl _⟩ (MX_e (e := e) (by rw [hft, if_neg n22, if_pos h35, if_pos hd6n, hq]; rfl) (((F3.mo oPx).tr F4).tr (d3F.mo d3x)) (by rw [up2_i (by omega)]; exact e0) (by rw [up2_i (by omega)]; exact e1))
        · obtain ⟨g0, g1, g2, g3, g4⟩ := k1 _ hq
          have g2 : MS I4 f n i2 := g2
          have hk := hokt (i + 1) (by omega)
          rw [hq] at hk
          obtain ⟨a1, a2, a3, -⟩ := hk
          refine j_aload_n C (D 27 rfl) rfl ?_
          refine j_bipush C (v := nI 93) (D 28 rfl) rfl ?_
          refine j_callV C B k_X12_181 (rc_obj C (lit (kd := 12) (n := 48) rfl) rfl rfl) (d_passesByte _ _ hL hb g2 g0 (s := 36) (v := 93) (by decide) (by decide) (by decide) (by decide)) rfl rfl (Nat.ble_eq_true_of_le (by omega)) rfl ⟨Nat.le_refl _, Nat.le_refl _⟩ (D 29 rfl) ?_
          rintro r w' ⟨rfl, I5, rfl, F5, k2, k3⟩
          obtain ⟨e, hqt⟩ | ⟨j, hqt⟩ := rs_c (pTake (tok f n) i2 36)
          · obtain ⟨e0, e1⟩ := k2 e hqt
            refine j_aload_n C (D 30 rfl) rfl ?_
            refine j_dup C (D 31 rfl) rfl ?_
            refine j_geti C f_X12_215 (lit (kd := 12) (n := 48) rfl) rfl rfl (D 32 rfl) ?_
            refine j_iconst C (v := nI 1) (D 33 rfl) rfl ?_
            refine j_isub C (D 34 rfl) ?_
            refine j_puti C f_X12_215 (lit (kd := 12) (n := 48) rfl) rfl rfl (D 35 rfl) ?_
            refine j_goto C 157 (D 36 rfl) (by decide) ?_
            exact j_vret C P rfl (D 79 rfl) ⟨Nat.le_refl _, Nat.le_refl _⟩ (MX_e (e := e) (by rw [hft, if_neg n22, if_pos h35, if_pos hd6n, hq]; exact thn_e hqt) ((((F3.mo oPx).tr F4).tr (F5.mo nPx)).tr (d3F.mo d3x)) (by rw [up2_i (by omega)]; exact e0) (by rw [up2_i (by omega)]; exact e1))
          · obtain ⟨t0, t1, t2⟩ := k3 j hqt
            have t2 : MS I5 f n j := t2
            refine j_aload_n C (D 30 rfl) rfl ?_
            refine j_dup C (D 31 rfl) rfl ?_
            refine j_geti C f_X12_215 (lit (kd := 12) (n := 48) rfl) rfl rfl (D 32 rfl) ?_
            rw [F5 _ _ (fun z => by unfold nP at z; omega), g4]
            refine j_iconst C (v := nI 1) (D 33 rfl) rfl ?_
            refine j_isub C (D 34 rfl) ?_
            rw [d_1]
            refine j_puti C f_X12_215 (lit (kd := 12) (n := 48) rfl) rfl rfl (D 35 rfl) ?_
            refine j_goto C 157 (D 36 rfl) (by decide) ?_
            exact j_vret C P rfl (D 79 rfl) ⟨Nat.le_refl _, Nat.le_refl _⟩ (MX_o (a := (o, j)) (by rw [hft, if_neg n22, if_pos h35, if_pos hd6n, hq]; exact thn_o hqt) ((((F3.mo oPx).tr F4).tr (F5.mo nPx)).tr (d3F.mo d3x)) (by rw [up2_i (by omega)]; exact t0) (by rw [up2_i (by omega), t1, g1]; exact u1) ⟨MS_d3 t2, CDM_r (CDM_r (CDM_l F3 oN g3) F5 nN) d3F d3N, up2_same _ _ _ _⟩)
  · have h22 : (tok f n i).1 = 22 := b2_ne h6
    have hlt := lt_sg hN hi1 h22 (by decide)
    have hsn : spo f n i < n := tok_lt_n (by rw [h22]; decide)
    refine j_aload_n C (D 4 rfl) rfl ?_
    refine j_callV C B k_X12_223 (rc_obj C (lit (kd := 12) (n := 48) rfl) rfl rfl) (d_opens _ _ hL hb hP.1 hP.2.1 hsn hP.2.2.2.2.2.1 hd6) rfl rfl (Nat.ble_eq_true_of_le (by omega)) rfl ⟨Nat.le_refl _, Nat.le_refl _⟩ (D 5 rfl) ?_
    rintro r w' ⟨rfl, I3, rfl, F3, k0, k1⟩
    obtain ⟨e, hqo⟩ | ⟨j0, hqo⟩ := rs_c (if d < 6 then (.inr (i + 1) : RS Nat) else .inl (fl (tok f n) i 4))
    · have hd6n : ¬ d < 6 := fun z => by rw [if_pos z] at hqo; cases hqo
      rw [if_neg hd6n] at hqo
      obtain ⟨e0, e1⟩ := k0 e (by rw [if_neg hd6n]; exact hqo)
      cases hqo
      have hd : ¬ I3 172 34 = 0 := dd_of e0 ⟨(by show 1 ≤ 4; omega), (by show 4 ≤ 4; omega)⟩
      refine j_aload_n C (D 6 rfl) rfl ?_
      refine j_callV C B k_X12_242 (rc_obj C (lit (kd := 12) (n := 48) rfl) rfl rfl) (d_readFactF _ _ hL hd) rfl rfl (Nat.ble_eq_true_of_le (by omega)) rfl ⟨Nat.le_refl _, Nat.le_refl _⟩ (D 7 rfl) ?_
      rintro r w' ⟨rfl, rfl⟩
      refine j_aload_n C (D 8 rfl) rfl ?_
      refine j_dup C (D 9 rfl) rfl ?_
      refine j_geti C f_X12_215 (lit (kd := 12) (n := 48) rfl) rfl rfl (D 10 rfl) ?_
      refine j_iconst C (v := nI 1) (D 11 rfl) rfl ?_
      refine j_isub C (D 12 rfl) ?_
      refine j_puti C f_X12_215 (lit (kd := 12) (n := 48) rfl) rfl rfl (D 13 rfl) ?_
      refine j_aload_n C (D 14 rfl) rfl ?_
      refine j_bipush C (v := nI 11) (D 15 rfl) rfl ?_
      refine j_iconst C (v := nI 0) (D 16 rfl) rfl ?_
      refine j_callV C B k_X12_218 (rc_obj C (lit (kd := 12) (n := 48) rfl) rfl rfl) (d_putsF _ _ hL (by rw [up2_i (by omega)]; exact hd) _ _) rfl rfl (Nat.ble_eq_true_of_le (by omega)) rfl ⟨Nat.le_refl _, Nat.le_refl _⟩ (D 17 rfl) ?_
      rintro r w' ⟨rfl, rfl⟩
      refine j_goto C 157 (D 18 rfl) (by decide) ?_
      exact j_vret C P rfl (D 79 rfl) ⟨Nat.le_refl _, Nat.le_refl _⟩ (MX_e (e := fl (tok f n) i 4) (by rw [hft, if_pos h22, if_neg hd6n]) ((F3.mo oPx).tr (d3F.mo d3x)) (by rw [up2_i (by omega)]; exact e0) (by rw [up2_i (by omega)]; exact e1))
    · have hd6n : d < 6 := by
        by_cases z : d < 6
        · exact z
        · rw [if_neg z] at hqo; cases hqo
      obtain ⟨u0, u1, u2, u3⟩ := k1 (i + 1) (by rw [if_pos hd6n])
      have hP3 := PM_n hP F3 u2 u0 u3 (by omega) hlt
      refine j_aload_n C (D 6 rfl) rfl ?_
      refine j_callV C B k_X12_242 (rc_obj C (lit (kd := 12) (n := 48) rfl) rfl rfl) (hgf hd6n _ _ _ _ hP3) rfl rfl (Nat.ble_eq_true_of_le (by omega)) rfl ⟨Nat.le_refl _, Nat.le_refl _⟩ (D 7 rfl) ?_
      rintro r w' ⟨rfl, I4, rfl, F4, k0, k1⟩
      obtain ⟨e, hq⟩ | ⟨⟨o, i2⟩, hq⟩ := rs_c (gf (i + 1))
      · obtain ⟨e0, e1⟩ := k0 e hq
        have hk := hok (i + 1) (by omega)
        rw [hq] at hk
        have hd : ¬ I4 172 34 = 0 := dd_of e0 hk
        refine j_aload_n C (D 8 rfl) rfl ?_
        refine j_dup C (D 9 rfl) rfl ?_
        refine j_geti C f_X12_215 (lit (kd := 12) (n := 48) rfl) rfl rfl (D 10 rfl) ?_
        refine j_iconst C (v := nI 1) (D 11 rfl) rfl ?_
        refine j_isub C (D 12 rfl) ?_
        refine j_puti C f_X12_215 (lit (kd := 12) (n := 48) rfl) rfl rfl (D 13 rfl) ?_
        refine j_aload_n C (D 14 rfl) rfl ?_
        refine j_bipush C (v := nI 11) (D 15 rfl) rfl ?_
        refine j_iconst C (v := nI 0) (D 16 rfl) rfl ?_
        refine j_callV C B k_X12_218 (rc_obj C (lit (kd := 12) (n := 48) rfl) rfl rfl) (d_putsF _ _ hL (by rw [up2_i (by omega)]; exact hd) _ _) rfl rfl (Nat.ble_eq_true_of_le (by omega)) rfl ⟨Nat.le_refl _, Nat.le_refl _⟩ (D 17 rfl) ?_
        rintro r w' ⟨rfl, rfl⟩
        refine j_goto C 157 (D 18 rfl) (by decide) ?_
        exact j_vret C P rfl (D 79 rfl) ⟨Nat.le_refl _, Nat.le_refl _⟩ (MX_e (e := e) (by rw [hft, if_pos h22, if_pos hd6n, hq]; rfl) (((F3.mo oPx).tr F4).tr (d3F.mo d3x)) (by rw [up2_i (by omega)]; exact e0) (by rw [up2_i (by omega)]; exact e1))
      · obtain ⟨g0, g1, g2, g3, g4⟩ := k1 _ hq
        have g2 : MS I4 f n i2 := g2
        have hk := hok (i + 1) (by omega)
        rw [hq] at hk
        obtain ⟨a1, a2, a3, -⟩ := hk
        refine j_aload_n C (D 8 rfl) rfl ?_
        refine j_dup C (D 9 rfl) rfl ?_
        refine j_geti C f_X12_215 (lit (kd := 12) (n := 48) rfl) rfl rfl (D 10 rfl) ?_
        rw [g4]
        refine j_iconst C (v := nI 1) (D 11 rfl) rfl ?_
        refine j_isub C (D 12 rfl) ?_
        rw [d_1]
        refine j_puti C f_X12_215 (lit (kd := 12) (n := 48) rfl) rfl rfl (D 13 rfl) ?_
        refine j_aload_n C (D 14 rfl) rfl ?_
        refine j_bipush C (v := nI 11) (D 15 rfl) rfl ?_
        refine j_iconst C (v := nI 0) (D 16 rfl) rfl ?_
        refine j_callV C B k_X12_218 (rc_obj C (lit (kd := 12) (n := 48) rfl) rfl rfl) (d_puts _ _ hL (by rw [up2_i (by omega)]; exact g0) (show up2 I4 172 33 (nI d) 172 17 = nI (m + o.length) from by rw [up2_i (by omega)]; exact g3.1) (by omega) (11, 0)) rfl rfl (Nat.ble_eq_true_of_le (by omega)) rfl ⟨Nat.le_refl _, Nat.le_refl _⟩ (D 17 rfl) ?_
        rintro r w' ⟨rfl, rfl⟩
        refine j_goto C 157 (D 18 rfl) (by decide) ?_
        exact j_vret C P rfl (D 79 rfl) ⟨Nat.le_refl _, Nat.le_refl _⟩ (MX_o (a := (o ++ [(11, 0)], i2)) (by rw [hft, if_pos h22, if_pos hd6n, hq]; rfl) ((((F3.mo oPx).tr F4).tr (d3F.mo d3x)).tr put_F) (by rw [up2_i (by omega), up2_i (by omega), up2_i (by omega)]; exact g0) (by rw [up2_i (by omega), up2_i (by omega), up2_i (by omega), g1]; exact u1) ⟨MS_pt (MS_d3 g2), CDM_app (CDM_r (CDM_l F3 oN g3) d3F d3N) CDM_put, by rw [up2_i (by omega), up2_i (by omega), up2_same]⟩)
theorem d_readTerm (G : GT) {L : Nat → Nat → Int64} {R : Nat → Nat → Option Nat} (hL : Lay R) {f : Nat → Int32} {n N nE : Nat} (hb : BY f n) (hN : TN (tok f n) N) (hE : nE ≤ 10) : ∀ k, k ≤ 6 → ∀ (l : Launch) (I : Nat → Nat → Int32) (m i : Nat), PMx I f n N nE m (6 - k) i → Mt l G mX12_readTerm (2 * k + 6) 0 0 [.ref (ra G 172)] (wd I L R) (MX I L R xP (mO I f n m (6 - k)) (trm (tok f n) nE k i))
  | 0, _, l, I, m, i, hP => d_readTerm_of l G hL hb hN hE hP (D := 6) (D2 := 1) (DD := 1) (tr := trm (tok f n) nE 0) (gs := fun i => .inl (fl (tok f n) i 4)) (by omega) (by omega) (by omega) (fun i => rfl) (fun i _ => ⟨(by show 1 ≤ 4; omega), (by show 4 ≤ 4; omega)⟩) (fun z => absurd z (by omega))
  | k + 1, hk, l, I, m, i, hP => by
    have hsum : ∀ (l : Launch) (I : Nat → Nat → Int32) (m i : Nat), PMx I f n N nE m (6 - k) i → Mt l G mX12_readSum (2 * k + 6 + 1) 0 0 [.ref (ra G 172)] (wd I L R) (MX I L R xP (mO I f n m (6 - k)) (sq (tok f n) (trm (tok f n) nE k) sepS i)) := fun l I m i hP => d_readSum_of l G hL hb hN hE hP (by omega) (trm_ok hN.2.1 hE k) (d_readTerm G hL hb hN hE k (by omega))
    have e1 : 6 - (k + 1) + 1 = 6 - k := by omega
    refine d_readTerm_of l G hL hb hN hE hP (D := 2 * (k + 1) + 6) (D2 := 2 * k + 6 + 1) (tr := trm (tok f n) nE (k + 1)) (gs := sq (tok f n) (trm (tok f n) nE k) sepS) (by omega) (by omega) (by omega) (fun i => ?_) (sq_ok hN.2.1 (trm_ok hN.2.1 hE k) sOK_S) (fun _ => ?_)
    · rw [trm, if_pos (show 6 - (k + 1) < 6 by omega)]
    · rw [e1]; exact hsum
theorem d_readSum (G : GT) {L : Nat → Nat → Int64} {R : Nat → Nat → Option Nat} (hL : Lay R) {f : Nat → Int32} {n N nE : Nat} (hb : BY f n) (hN : TN (tok f n) N) (hE : nE ≤ 10) (k : Nat) (hk : k ≤ 6) (l : Launch) (I : Nat → Nat → Int32) (m i : Nat) (hP : PMx I f n N nE m (6 - k) i) : Mt l G mX12_readSum (2 * k + 6 + 1) 0 0 [.ref (ra G 172)] (wd I L R) (MX I L R xP (mO I f n m (6 - k)) (sm (tok f n) nE k i)) :=
  d_readSum_of l G hL hb hN hE hP (by omega) (trm_ok hN.2.1 hE k) (d_readTerm G hL hb hN hE k hk)
theorem d_readFact (G : GT) {L : Nat → Nat → Int64} {R : Nat → Nat → Option Nat} (hL : Lay R) {f : Nat → Int32} {n N nE : Nat} (hb : BY f n) (hN : TN (tok f n) N) (hE : nE ≤ 10) : ∀ k, k ≤ 6 → ∀ (l : Launch) (I : Nat → Nat → Int32) (m i : Nat), PMx I f n N nE m (6 - k) i → Mt l G mX12_readFact (3 * k + 8) 0 0 [.ref (ra G 172)] (wd I L R) (MX I L R xP (mO I f n m (6 - k)) (fct (tok f n) nE k i))
  | 0, _, l, I, m, i, hP => d_readFact_of l G hL hb hN hE hP (D := 8) (Df := 1) (Dt := 1) (Ds := 7) (DD := 1) (D2 := 1) (k := 0) (ft := fct (tok f n) nE 0) (gf := fun i => .inl (fl (tok f n) i 4)) (gt := fun i => .inl (fl (tok f n) i 4)) (by omega) (by omega) (by omega) (by omega) (by omega) (fun i => rfl) (fun i _ => ⟨(by show 1 ≤ 4; omega), (by show 4 ≤ 4; omega)⟩) (fun i _ => ⟨(by show 1 ≤ 4; omega), (by show 4 ≤ 4; omega)⟩) (fun z => absurd z (by omega)) (fun z => absurd z (by omega)) (d_readSum G hL hb hN hE 0 (by omega))
  | k + 1, hk, l, I, m, i, hP => by
    have hf := d_readFact G (L := L) hL hb hN hE k (by omega)
    have hsd : ∀ (l : Launch) (I : Nat → Nat → Int32) (m i : Nat), PMx I f n N nE m (6 - k) i → Mt l G mX12_readSide (3 * k + 8 + 1) 0 0 [.ref (ra G 172)] (wd I L R) (MX I L R xP (mO I f n m (6 - k)) (sq (tok f n) (fct (tok f n) nE k) sepA i)) := fun l I m i hP => d_readSide_of l G hL hb hN hE hP (by omega) (fct_ok hN.2.1 hE k) hf
    have hts : ∀ (l : Launch) (I : Nat → Nat → Int32) (m i : Nat), PMx I f n N nE m (6 - k) i → Mt l G mX12_readTest (3 * k + 8 + 1 + 1) 0 0 [.ref (ra G 172)] (wd I L R) (MX I L R xP (mO I f n m (6 - k)) (sq (tok f n) (sq (tok f n) (fct (tok f n) nE k) sepA) sepO i)) := fun l I m i hP => d_readTest_of l G hL hb hN hE hP (by omega) (sq_ok hN.2.1 (fct_ok hN.2.1 hE k) sOK_A) hsd
    have e1 : 6 - (k + 1) + 1 = 6 - k := by omega
    refine d_readFact_of l G hL hb hN hE hP (D := 3 * (k + 1) + 8) (Df := 3 * k + 8) (Dt := 3 * k + 8 + 1 + 1) (Ds := 2 * (k + 1) + 6 + 1) (k := k + 1) (ft := fct (tok f n) nE (k + 1)) (gf := fct (tok f n) nE k) (gt := sq (tok f n) (sq (tok f n) (fct (tok f n) nE k) sepA) sepO) (by omega) (by omega) (by omega) (by omega) (by omega) (fun i => ?_) (fct_ok hN.2.1 hE k) (sq_ok hN.2.1 (sq_ok hN.2.1 (fct_ok hN.2.1 hE k) sOK_A) sOK_O) (fun _ => ?_) (fun _ => ?_) (d_readSum G hL hb hN hE (k + 1) hk)
    · rw [fct, if_pos (show 6 - (k + 1) < 6 by omega), if_pos (show 6 - (k + 1) < 6 by omega)]
    · rw [e1]; exact hf
    · rw [e1]; exact hts
theorem d_readTest (G : GT) {L : Nat → Nat → Int64} {R : Nat → Nat → Option Nat} (hL : Lay R) {f : Nat → Int32} {n N nE : Nat} (hb : BY f n) (hN : TN (tok f n) N) (hE : nE ≤ 10) (l : Launch) (I : Nat → Nat → Int32) (m i : Nat) (hP : PMx I f n N nE m 0 i) : Mt l G mX12_readTest (28) 0 0 [.ref (ra G 172)] (wd I L R) (MX I L R xP (mO I f n m 0) (tst (tok f n) nE 6 i)) :=
  d_readTest_of l G hL hb hN hE hP (by omega) (sd_ok hN.2.1 hE 6) (fun l I m i hP => d_readSide_of l G hL hb hN hE hP (by omega) (fct_ok hN.2.1 hE 6) (d_readFact G hL hb hN hE 6 (by omega)))

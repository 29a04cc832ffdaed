set_option maxRecDepth 20000 in
theorem d_readBonus (l : Launch) (G : GT) {I : Nat → Nat → Int32} {L : Nat → Nat → Int64} {R : Nat → Nat → Option Nat} (hL : Lay R) {f : Nat → Int32} {n N i : Nat} {V : VT} {tt : Bool} (hb : BY f n) (hN : TN (tok f n) N) (hP : LMx I f n N V tt i) (hsn : spo f n i < n) : Mt l G mX12_readBonus (29) 0 0 [.ref (ra G 172)] (wd I L R) (MX I L R lM (lmO f n) (if vB V < 4 then pBon (tok f n) V tt i else .inl (fl (tok f n) i 4))) := by
  refine mt_of (own := RX12) (by decide) rfl rfl (fun Z C P B => ?_)
  have D := @dc_of _ _ dX12_readBonus
  have hnn := hb.1
  have hN1 := hN.1
  have hS := hP.1
  have hg := hP.2.1
  have hD := hP.2.2.1
  have htt := hP.2.2.2.1
  have hV := hP.2.2.2.2.1.1
  have hoff := hP.2.2.2.2.1.2
  have hlt := hP.2.2.2.2.2
  have hE10 := hV.1
  have hA8 := hV.2.1
  have hB4 := hV.2.2.1
  have D69 : ∀ (e : Nat × Nat) (I1 : Nat → Nat → Int32), (if vB V < 4 then pBon (tok f n) V tt i else .inl (fl (tok f n) i 4)) = .inl e → vB V < 4 → Fx lM I I1 → I1 172 34 = nI e.1 → I1 172 35 = nI e.2 → ¬ I1 172 34 = 0 → I1 172 15 = nI (vB V) → J Z (0, 0) 69 [some (.ref (ra G 172))] [] (wd I1 L R) := by
    intro e I1 hres hB hF e0 e1 hd h15
    refine j_aload_n C (D 35 rfl) rfl ?_
    refine j_dup C (D 36 rfl) rfl ?_
    refine j_geti C f_X12_255 (lit (kd := 12) (n := 48) rfl) rfl rfl (D 37 rfl) ?_
    rw [h15]
    refine j_iconst C (v := nI 1) (D 38 rfl) rfl ?_
    refine j_iadd C (D 39 rfl) ?_
    rw [nI_add]
    refine j_puti C f_X12_255 (lit (kd := 12) (n := 48) rfl) rfl rfl (D 40 rfl) ?_
    refine j_aload_n C (D 41 rfl) rfl ?_
    refine j_getr C f_X12_37 (lit (kd := 12) (n := 48) rfl) rfl rfl (hL _ _ _ rfl) (D 42 rfl) ?_
    refine j_aload_n C (D 43 rfl) rfl ?_
    refine j_geti C f_X12_255 (lit (kd := 12) (n := 48) rfl) rfl rfl (D 44 rfl) ?_
    rw [up2_same]
    refine j_aload_n C (D 45 rfl) rfl ?_
    refine j_geti C f_X12_212 (lit (kd := 12) (n := 48) rfl) rfl rfl (D 46 rfl) ?_
    refine j_iast C (lit (kd := 20) (n := 5) rfl) (ix_n (by omega) (by decide)) (D 47 rfl) ?_
    exact j_vret C P rfl (D 48 rfl) ⟨Nat.le_refl _, Nat.le_refl _⟩ (MX_e hres (Fx.up (Fx.up hF (Or.inl ⟨rfl, by omega⟩)) (Or.inr ⟨by omega, by omega, by omega⟩)) (by rw [up2_i (by omega), up2_i (by omega)]; exact e0) (by rw [up2_i (by omega), up2_i (by omega)]; exact e1))
  have D53 : ∀ (e : Nat × Nat) (I1 : Nat → Nat → Int32), (if vB V < 4 then pBon (tok f n) V tt i else .inl (fl (tok f n) i 4)) = .inl e → vB V < 4 → Fx lM I I1 → I1 172 34 = nI e.1 → I1 172 35 = nI e.2 → ¬ I1 172 34 = 0 → I1 172 15 = nI (vB V) → J Z (0, 0) 53 [some (.ref (ra G 172))] [] (wd I1 L R) := by
    intro e I1 hres hB hF e0 e1 hd h15
    refine j_aload_n C (D 27 rfl) rfl ?_
    refine j_iconst C (v := nI 0) (D 28 rfl) rfl ?_
    refine j_puti C f_X12_215 (lit (kd := 12) (n := 48) rfl) rfl rfl (D 29 rfl) ?_
    refine j_aload_n C (D 30 rfl) rfl ?_
    refine j_cVp C B k_X12_106 (rc_obj C (lit (kd := 12) (n := 48) rfl) rfl rfl) (d_goodF _ _ hL (by rw [up2_i (by omega)]; exact hd)) rfl rfl rfl rfl ⟨Nat.le_refl _, Nat.le_refl _⟩ (D 31 rfl) ?_
    refine j_if_eq C  69 (D 32 rfl) (by decide) (fun h62 => ?_) (fun h62 => absurd h62 (fun z => z rfl))
    exact D69 e _ hres hB (Fx.up hF (Or.inl ⟨rfl, by omega⟩)) (by rw [up2_i (by omega)]; exact e0) (by rw [up2_i (by omega)]; exact e1) (by rw [up2_i (by omega)]; exact hd) (by rw [up2_i (by omega)]; exact h15)
  refine j_aload_n C (D 0 rfl) rfl ?_
  refine j_geti C f_X12_255 (lit (kd := 12) (n := 48) rfl) rfl rfl (D 1 rfl) ?_
  rw [hD.2.2.1]
  refine j_iconst C (v := nI 4) (D 2 rfl) rfl ?_
  refine j_icmp_ne C  17 (D 3 rfl) (by decide) (fun h5 => ?_) (fun h5 => ?_)
  · have hB : vB V < 4 := by
      by_cases z : vB V = 4
      · exact absurd (by rw [z]) h5
      · omega
    refine j_aload_n C (D 9 rfl) rfl ?_
    refine j_cVp C B k_X12_106 (rc_obj C (lit (kd := 12) (n := 48) rfl) rfl rfl) (d_goodT _ _ hL hg) rfl rfl rfl rfl ⟨Nat.le_refl _, Nat.le_refl _⟩ (D 10 rfl) ?_
    refine j_if_ne C  25 (D 11 rfl) (by decide) (fun h21 => ?_) (fun h21 => absurd h21 (by decide))
    refine j_aload_n C (D 13 rfl) rfl ?_
    refine j_callV C B k_X12_158 (rc_obj C (lit (kd := 12) (n := 48) rfl) rfl rfl) (d_advance _ _ hL hb hS hsn) rfl rfl rfl rfl ⟨Nat.le_refl _, Nat.le_refl _⟩ (D 14 rfl) ?_
    rintro r w' ⟨rfl, I2, rfl, F2, hS2⟩
    have hg2 : I2 172 34 = nI 0 := by rw [F2 _ _ (fun z => by unfold aP at z; omega)]; exact hg
    refine j_aload_n C (D 15 rfl) rfl ?_
    refine j_getr C f_X12_34 (lit (kd := 12) (n := 48) rfl) rfl rfl (hL _ _ _ rfl) (D 16 rfl) ?_
    refine j_aload_n C (D 17 rfl) rfl ?_
    refine j_geti C f_X12_255 (lit (kd := 12) (n := 48) rfl) rfl rfl (D 18 rfl) ?_
    rw [F2 _ _ (fun z => by unfold aP at z; omega), hD.2.2.1]
    refine j_aload_n C (D 19 rfl) rfl ?_
    refine j_iconst C (v := nI 1) (D 20 rfl) rfl ?_
    refine j_sipush C (v := nI 500) (D 21 rfl) rfl ?_
    refine j_callV C B k_X12_178 (rc_obj C (lit (kd := 12) (n := 48) rfl) rfl rfl) (d_number _ _ hL hb hS2 hg2 (lo := 1) (hx := 501) (hi := nI 500) (by omega) (by omega) (by decide)) rfl rfl rfl rfl ⟨Nat.le_refl _, Nat.le_refl _⟩ (D 22 rfl) ?_
    rintro r w' ⟨I3, v3, rfl, rfl, F3, k0, k1⟩
    obtain ⟨e, hq1⟩ | ⟨⟨a, j⟩, hq1⟩ := rs_c (pNum (tok f n) (i + 1) 1 501)
    · obtain ⟨e0, e1⟩ := k0 e hq1
      have hd : ¬ I3 172 34 = 0 := dd_of e0 (pNum_er hq1)
      refine j_iast C (lit (kd := 20) (n := 4) rfl) (ix_n (by omega) (by decide)) (D 23 rfl) ?_
      refine j_aload_n C (D 24 rfl) rfl ?_
      refine j_ldc_wS C (i := 15) (by decide) rfl (D 25 rfl) ?_
      refine j_callV C B k_X12_193 (rc_obj C (lit (kd := 12) (n := 48) rfl) rfl rfl) (d_passesF _ _ hL (by rw [up2_i (by omega)]; exact hd) 15 (by decide)) rfl rfl rfl rfl ⟨Nat.le_refl _, Nat.le_refl _⟩ (D 26 rfl) ?_
      rintro r w' ⟨rfl, rfl⟩
      exact D53 e _ (by rw [if_pos hB]; unfold pBon; simp only [hq1, bnd_l, bnd_r]) hB (Fx.up ((F2.mo aPl).tr (F3.mo nPl)) (Or.inr ⟨by omega, by omega, by omega⟩)) (by rw [up2_i (by omega)]; exact e0) (by rw [up2_i (by omega)]; exact e1) (by rw [up2_i (by omega)]; exact hd) (by rw [up2_i (by omega), F3 _ _ (fun z => by unfold nP at z; omega), F2 _ _ (fun z => by unfold aP at z; omega)]; exact hD.2.2.1)
    · obtain ⟨hv, g0, g1, g2⟩ := k1 _ hq1
      have hv : v3 = nI a := hv
      subst hv
      have g2 : MS I3 f n j := g2
      obtain ⟨b1, b2, b3, b4⟩ := pNum_go hN (by omega) hq1
      have hSb : MS (up2 I3 181 (vB V) (nI a)) f n j := MS_go g2 (Fx.up (Fx.rf (fun b _ => b = 181) _) rfl) (fun b j z => by omega)
      have hgb : up2 I3 181 (vB V) (nI a) 172 34 = nI 0 := by rw [up2_i (by omega)]; exact g0
      refine j_iast C (lit (kd := 20) (n := 4) rfl) (ix_n (by omega) (by decide)) (D 23 rfl) ?_
      refine j_aload_n C (D 24 rfl) rfl ?_
      refine j_ldc_wS C (i := 15) (by decide) rfl (D 25 rfl) ?_
      refine j_callV C B k_X12_193 (rc_obj C (lit (kd := 12) (n := 48) rfl) rfl rfl) (d_passes _ _ hL hb hSb hgb 15 (by decide)) rfl rfl rfl rfl ⟨Nat.le_refl _, Nat.le_refl _⟩ (D 26 rfl) ?_
      rintro r w' ⟨rfl, I4, rfl, F4, k2, k3⟩
      obtain ⟨e, hq2⟩ | ⟨j2, hq2⟩ := rs_c (pTake (tok f n) j 15)
      · obtain ⟨e0, e1⟩ := k2 e hq2
        have hd : ¬ I4 172 34 = 0 := dd_of e0 (pTake_er hq2)
        exact D53 e I4 (by rw [if_pos hB]; unfold pBon; simp only [hq1, bnd_l, bnd_r, hq2]) hB ((Fx.up ((F2.mo aPl).tr (F3.mo nPl)) (Or.inr ⟨by omega, by omega, by omega⟩)).tr (F4.mo nPl)) e0 e1 hd (by rw [F4 _ _ (fun z => by unfold nP at z; omega), up2_i (by omega), F3 _ _ (fun z => by unfold nP at z; omega), F2 _ _ (fun z => by unfold aP at z; omega)]; exact hD.2.2.1)
      · obtain ⟨u0, u1, u2⟩ := k3 j2 hq2
        have u2 : MS I4 f n j2 := u2
        obtain ⟨c1, c2⟩ := pTake_go hN (by omega) (by omega) hq2
        refine j_aload_n C (D 27 rfl) rfl ?_
        refine j_iconst C (v := nI 0) (D 28 rfl) rfl ?_
        refine j_puti C f_X12_215 (lit (kd := 12) (n := 48) rfl) rfl rfl (D 29 rfl) ?_
        refine j_aload_n C (D 30 rfl) rfl ?_
        refine j_cVp C B k_X12_106 (rc_obj C (lit (kd := 12) (n := 48) rfl) rfl rfl) (d_goodT _ _ hL (by rw [up2_i (by omega)]; exact u0)) rfl rfl rfl rfl ⟨Nat.le_refl _, Nat.le_refl _⟩ (D 31 rfl) ?_
        refine j_if_eq C  69 (D 32 rfl) (by decide) (fun h62 => absurd h62 (by decide)) (fun h62 => ?_)
        have gP : PMx (up2 I4 172 33 (nI 0)) f n N (vE V) (off (vts V) (vB V)) 0 j2 := ⟨MS_d3 u2, by rw [up2_i (by omega)]; exact u0, by rw [up2_i (by omega), F4 _ _ (fun z => by unfold nP at z; omega), up2_i (by omega), F3 _ _ (fun z => by unfold nP at z; omega), F2 _ _ (fun z => by unfold aP at z; omega)]; exact hD.2.2.2.2.1, by omega, by omega, up2_same _ _ _ _, by rw [up2_i (by omega), F4 _ _ (fun z => by unfold nP at z; omega), up2_i (by omega), F3 _ _ (fun z => by unfold nP at z; omega), F2 _ _ (fun z => by unfold aP at z; omega)]; exact hD.1⟩
        have gF : Fx (fun b j => (b = 172 ∧ 29 ≤ j ∧ j ≤ 35) ∨ (b = 181 ∧ j = vB V)) I (up2 I4 172 33 (nI 0)) := Fx.up (Fx.tr (Fx.up (Fx.tr (F2.mo (fun b j z => Or.inl ⟨z.1, by have := z.2; omega⟩)) (F3.mo (fun b j z => Or.inl ⟨z.1, by have := z.2; omega⟩))) (Or.inr ⟨rfl, rfl⟩)) (F4.mo (fun b j z => Or.inl ⟨z.1, by have := z.2; omega⟩))) (Or.inl ⟨rfl, by omega, by omega⟩)
        refine j_aload_n C (D 33 rfl) rfl ?_
        refine j_callV C B k_X12_245 (rc_obj C (lit (kd := 12) (n := 48) rfl) rfl rfl) (d_readTest _ hL hb hN hE10 _ _ _ _ gP) rfl rfl rfl rfl ⟨Nat.le_refl _, Nat.le_refl _⟩ (D 34 rfl) ?_
        rintro r w' ⟨rfl, I5, rfl, F5, k4, k5⟩
        obtain ⟨e, hq3⟩ | ⟨⟨o, j3⟩, hq3⟩ := rs_c (tst (tok f n) (vE V) 6 j2)
        · obtain ⟨e0, e1⟩ := k4 e hq3
          have hk := tst_ok (nE := vE V) hN.2.1 hE10 6 j2 (by omega)
          rw [hq3] at hk
          have hd : ¬ I5 172 34 = 0 := dd_of e0 hk
          exact D69 e I5 (by rw [if_pos hB]; unfold pBon; simp only [hq1, bnd_l, bnd_r, hq2, hq3]) hB ((gF.mo (fun b j z => by unfold lM; omega)).tr (F5.mo xPl)) e0 e1 hd (by rw [F5 _ _ (fun z => by unfold xP at z; omega), gF _ _ (fun z => by omega)]; exact hD.2.2.1)
        · obtain ⟨w0, w1, w2, w3, w4⟩ := k5 _ hq3
          have w2 : MS I5 f n j3 := w2
          have w3 : CDM (up2 I4 172 33 (nI 0)) I5 (off (vts V) (vB V)) o := w3
          refine j_aload_n C (D 35 rfl) rfl ?_
          refine j_dup C (D 36 rfl) rfl ?_
          refine j_geti C f_X12_255 (lit (kd := 12) (n := 48) rfl) rfl rfl (D 37 rfl) ?_
          rw [F5 _ _ (fun z => by unfold xP at z; omega), gF _ _ (fun z => by omega), hD.2.2.1]
          refine j_iconst C (v := nI 1) (D 38 rfl) rfl ?_
          refine j_iadd C (D 39 rfl) ?_
          rw [nI_add]
          refine j_puti C f_X12_255 (lit (kd := 12) (n := 48) rfl) rfl rfl (D 40 rfl) ?_
          refine j_aload_n C (D 41 rfl) rfl ?_
          refine j_getr C f_X12_37 (lit (kd := 12) (n := 48) rfl) rfl rfl (hL _ _ _ rfl) (D 42 rfl) ?_
          refine j_aload_n C (D 43 rfl) rfl ?_
          refine j_geti C f_X12_255 (lit (kd := 12) (n := 48) rfl) rfl rfl (D 44 rfl) ?_
          rw [up2_same]
          refine j_aload_n C (D 45 rfl) rfl ?_
          refine j_geti C f_X12_212 (lit (kd := 12) (n := 48) rfl) rfl rfl (D 46 rfl) ?_
          rw [up2_i (show ¬ ((172 : Nat) = 172 ∧ (17 : Nat) = 15) by omega)]
          refine j_iast C (lit (kd := 20) (n := 5) rfl) (ix_n (by omega) (by decide)) (D 47 rfl) ?_
          exact j_vret C P rfl (D 48 rfl) ⟨Nat.le_refl _, Nat.le_refl _⟩ (MX_o (a := ((addBn V a o, tt), j3)) (by rw [if_pos hB]; unfold pBon; simp only [hq1, bnd_l, bnd_r, hq2, hq3]) (Fx.up (Fx.up ((gF.mo (fun b j z => by unfold lM; omega)).tr (F5.mo xPl)) (Or.inl ⟨rfl, by omega⟩)) (Or.inr ⟨by omega, by omega, by omega⟩)) (by rw [up2_i (by omega), up2_i (by omega)]; exact w0) (by rw [up2_i (by omega), up2_i (by omega), w1, up2_i (by omega), u1, up2_i (by omega), g1, F2 _ _ (fun z => by unfold aP at z; omega)]) ⟨MS_go w2 (Fx.up (Fx.up (Fx.rf (fun b j => (b = 172 ∧ j = 15) ∨ b = 182) _) (Or.inl ⟨rfl, rfl⟩)) (Or.inr rfl)) (fun b j z => by omega), MD_bn hV hD ((gF.mo (fun b j z => by unfold xP; omega)).tr (F5.mo (fun b j z => Or.inl z))) (by rw [F5 _ _ (fun z => by unfold xP at z; omega), up2_i (by omega), F4 _ _ (fun z => by unfold nP at z; omega), up2_same]) (CDM_l gF (fun b j z => by omega) w3), by rw [up2_i (by omega), up2_i (by omega), F5 _ _ (fun z => by unfold xP at z; omega), gF _ _ (fun z => by omega)]; exact htt⟩)
  · have hB : ¬ vB V < 4 := by have := nI_inj (by omega) (by omega) h5; omega
    refine j_aload_n C (D 4 rfl) rfl ?_
    refine j_iconst C (v := nI 4) (D 5 rfl) rfl ?_
    refine j_aload_n C (D 6 rfl) rfl ?_
    refine j_geti C f_X12_120 (lit (kd := 12) (n := 48) rfl) rfl rfl (D 7 rfl) ?_
    rw [hS.2.1]
    refine j_callV C B k_X12_168 (rc_obj C (lit (kd := 12) (n := 48) rfl) rfl rfl) (d_errsT _ _ hL hg _ _) rfl rfl rfl rfl ⟨Nat.le_refl _, Nat.le_refl _⟩ (D 8 rfl) ?_
    rintro r w' ⟨rfl, rfl⟩
    have hdd : ¬ up2 (up2 I 172 34 (nI 4)) 172 35 (nI (spo f n i)) 172 34 = 0 := dd_of (k := 4) (by rw [up2_i (by omega), up2_same]) (by omega)
    refine j_aload_n C (D 9 rfl) rfl ?_
    refine j_cVp C B k_X12_106 (rc_obj C (lit (kd := 12) (n := 48) rfl) rfl rfl) (d_goodF _ _ hL hdd) rfl rfl rfl rfl ⟨Nat.le_refl _, Nat.le_refl _⟩ (D 10 rfl) ?_
    refine j_if_ne C  25 (D 11 rfl) (by decide) (fun h21 => absurd h21 (fun z => z rfl)) (fun h21 => ?_)
    exact j_vret C P rfl (D 12 rfl) ⟨Nat.le_refl _, Nat.le_refl _⟩ (MX_e (e := fl (tok f n) i 4) (by rw [if_neg hB]) (Fx.up (Fx.up (Fx.rf _ _) (Or.inl ⟨rfl, by omega⟩)) (Or.inl ⟨rfl, by omega⟩)) (by rw [up2_i (by omega), up2_same]; rfl) (by rw [up2_same]; show _ = nI (tok f n i).2.1; rw [tok_2]))
set_option maxRecDepth 20000 in
theorem d_readTie (l : Launch) (G : GT) {I : Nat → Nat → Int32} {L : Nat → Nat → Int64} {R : Nat → Nat → Option Nat} (hL : Lay R) {f : Nat → Int32} {n N i : Nat} {V : VT} {tt : Bool} (hb : BY f n) (hN : TN (tok f n) N) (hP : LMx I f n N V tt i) (hsn : spo f n i < n) : Mt l G mX12_readTie (5) 0 0 [.ref (ra G 172)] (wd I L R) (MX I L R lM (lmO f n) (if tt = true then .inl (fl (tok f n) i 3) else pTie (tok f n) V i)) := by
  refine mt_of (own := RX12) (by decide) rfl rfl (fun Z C P B => ?_)
  have D := @dc_of _ _ dX12_readTie
  have hnn := hb.1
  have hN1 := hN.1
  have hS := hP.1
  have hg := hP.2.1
  have hD := hP.2.2.1
  have htt := hP.2.2.2.1
  have hV := hP.2.2.2.2.1.1
  have hoff := hP.2.2.2.2.1.2
  have hlt := hP.2.2.2.2.2
  have hE10 := hV.1
  have hA8 := hV.2.1
  have hB4 := hV.2.2.1
  refine j_aload_n C (D 0 rfl) rfl ?_
  refine j_geti C f_X12_260 (lit (kd := 12) (n := 48) rfl) rfl rfl (D 1 rfl) ?_
  rw [htt]
  refine j_if_eq C  16 (D 2 rfl) (by decide) (fun h4 => ?_) (fun h4 => ?_)
  · have ht : ¬ tt = true := b2_eq h4
    refine j_aload_n C (D 8 rfl) rfl ?_
    refine j_iconst C (v := nI 1) (D 9 rfl) rfl ?_
    refine j_putz C f_X12_260 (lit (kd := 12) (n := 48) rfl) rfl rfl (D 10 rfl) (by first | exact Or.inl rfl | exact Or.inr rfl) ?_
    refine j_aload_n C (D 11 rfl) rfl ?_
    refine j_cVp C B k_X12_106 (rc_obj C (lit (kd := 12) (n := 48) rfl) rfl rfl) (d_goodT _ _ hL (by rw [up2_i (by omega)]; exact hg)) rfl rfl rfl rfl ⟨Nat.le_refl _, Nat.le_refl _⟩ (D 12 rfl) ?_
    refine j_if_eq C  32 (D 13 rfl) (by decide) (fun h25 => absurd h25 (by decide)) (fun h25 => ?_)
    refine j_aload_n C (D 14 rfl) rfl ?_
    refine j_callV C B k_X12_158 (rc_obj C (lit (kd := 12) (n := 48) rfl) rfl rfl) (d_advance _ _ hL hb (MS_go hS (Fx.up (Fx.rf (fun b j => b = 172 ∧ j = 18) _) ⟨rfl, rfl⟩) (fun b j z => by omega)) hsn) rfl rfl rfl rfl ⟨Nat.le_refl _, Nat.le_refl _⟩ (D 15 rfl) ?_
    rintro r w' ⟨rfl, I2, rfl, F2, hS2⟩
    have hg2 : I2 172 34 = nI 0 := by rw [F2 _ _ (fun z => by unfold aP at z; omega), up2_i (by omega)]; exact hg
    have hF2 : Fx lM I I2 := Fx.tr (Fx.up (Fx.rf _ _) (Or.inl ⟨rfl, by omega⟩)) (F2.mo aPl)
    have hF2s : Fx (fun b j => b = 172 ∧ ((29 ≤ j ∧ j ≤ 35) ∨ j = 18)) I I2 := Fx.tr (Fx.up (Fx.rf _ _) ⟨rfl, by omega⟩) (F2.mo aPM)
    refine j_aload_n C (D 16 rfl) rfl ?_
    refine j_ldc_wS C (i := 11) (by decide) rfl (D 17 rfl) ?_
    refine j_cVp C B k_X12_154 (rc_obj C (lit (kd := 12) (n := 48) rfl) rfl rfl) (d_isWord _ _ hL hb hS2 hg2 11 (by decide)) rfl rfl rfl rfl ⟨Nat.le_refl _, Nat.le_refl _⟩ (D 18 rfl) ?_
    refine j_if_eq C  46 (D 19 rfl) (by decide) (fun h39 => ?_) (fun h39 => ?_)
    · refine j_aload_n C (D 22 rfl) rfl ?_
      refine j_ldcS C (i := 12) (by decide) rfl (D 23 rfl) ?_
      refine j_cVp C B k_X12_154 (rc_obj C (lit (kd := 12) (n := 48) rfl) rfl rfl) (d_isWord _ _ hL hb hS2 hg2 12 (by decide)) rfl rfl rfl rfl ⟨Nat.le_refl _, Nat.le_refl _⟩ (D 24 rfl) ?_
      refine j_if_eq C  59 (D 25 rfl) (by decide) (fun h52 => ?_) (fun h52 => ?_)
      · refine j_aload_n C (D 28 rfl) rfl ?_
        refine j_ldc_wS C (i := 13) (by decide) rfl (D 29 rfl) ?_
        refine j_cVp C B k_X12_154 (rc_obj C (lit (kd := 12) (n := 48) rfl) rfl rfl) (d_isWord _ _ hL hb hS2 hg2 13 (by decide)) rfl rfl rfl rfl ⟨Nat.le_refl _, Nat.le_refl _⟩ (D 30 rfl) ?_
        refine j_if_eq C  73 (D 31 rfl) (by decide) (fun h66 => ?_) (fun h66 => ?_)
        · refine j_iconst C (v := (-1)) (D 34 rfl) (by decide) ?_
          have htio : tio (tok f n (i + 1)).1 = 99 := by unfold tio; rw [if_neg (show ¬ (tok f n (i + 1)).1 = 11 from b2_eq h39), if_neg (show ¬ (tok f n (i + 1)).1 = 12 from b2_eq h52), if_neg (show ¬ (tok f n (i + 1)).1 = 13 from b2_eq h66)]
          refine j_istore_n C (D 35 rfl) rfl ?_
          refine j_iload_n C (D 36 rfl) rfl ?_
          refine j_iconst C (v := (-1)) (D 37 rfl) (by decide) ?_
          refine j_icmp_ne C  89 (D 38 rfl) (by decide) (fun h77 => absurd h77 (fun z => z rfl)) (fun h77 => ?_)
          refine j_aload_n C (D 39 rfl) rfl ?_
          refine j_iconst C (v := nI 1) (D 40 rfl) rfl ?_
          refine j_aload_n C (D 41 rfl) rfl ?_
          refine j_geti C f_X12_120 (lit (kd := 12) (n := 48) rfl) rfl rfl (D 42 rfl) ?_
          rw [hS2.2.1]
          refine j_callV C B k_X12_168 (rc_obj C (lit (kd := 12) (n := 48) rfl) rfl rfl) (d_errsT _ _ hL hg2 _ _) rfl rfl rfl rfl ⟨Nat.le_refl _, Nat.le_refl _⟩ (D 43 rfl) ?_
          rintro r w' ⟨rfl, rfl⟩
          refine j_aload_n C (D 44 rfl) rfl ?_
          refine j_iload_n C (D 45 rfl) rfl ?_
          refine j_puti C f_X12_268 (lit (kd := 12) (n := 48) rfl) rfl rfl (D 46 rfl) ?_
          refine j_aload_n C (D 47 rfl) rfl ?_
          refine j_cVp C B k_X12_106 (rc_obj C (lit (kd := 12) (n := 48) rfl) rfl rfl) (d_goodF _ _ hL (dd_of (k := 1) (by rw [up2_i (by omega), up2_i (by omega), up2_same]) (by omega))) rfl rfl rfl rfl ⟨Nat.le_refl _, Nat.le_refl _⟩ (D 48 rfl) ?_
          refine j_if_eq C  105 (D 49 rfl) (by decide) (fun h98 => ?_) (fun h98 => absurd h98 (fun z => z rfl))
          exact j_vret C P rfl (D 52 rfl) ⟨Nat.le_refl _, Nat.le_refl _⟩ (MX_e (e := fl (tok f n) (i + 1) 1) (by rw [if_neg ht]; unfold pTie; rw [if_pos htio]) (Fx.up (Fx.up (Fx.up hF2 (Or.inl ⟨rfl, by omega⟩)) (Or.inl ⟨rfl, by omega⟩)) (Or.inl ⟨rfl, by omega⟩)) (by rw [up2_i (by omega), up2_i (by omega), up2_same]; rfl) (by rw [up2_i (by omega), up2_same]; show _ = nI (tok f n (i + 1)).2.1; rw [tok_2]))
        · refine j_iconst C (v := nI 2) (D 32 rfl) rfl ?_
          refine j_goto C 74 (D 33 rfl) (by decide) ?_
          have hs : (tok f n (i + 1)).1 = 13 := b2_ne h66
          have htio : tio (tok f n (i + 1)).1 = 2 := by rw [hs]; rfl
          have hlt2 := lt_sg hN hlt hs (by decide)
          refine j_istore_n C (D 35 rfl) rfl ?_
          refine j_iload_n C (D 36 rfl) rfl ?_
          refine j_iconst C (v := (-1)) (D 37 rfl) (by decide) ?_
          refine j_icmp_ne C  89 (D 38 rfl) (by decide) (fun h77 => ?_) (fun h77 => absurd h77 (by decide))
          refine j_aload_n C (D 44 rfl) rfl ?_
          refine j_iload_n C (D 45 rfl) rfl ?_
          refine j_puti C f_X12_268 (lit (kd := 12) (n := 48) rfl) rfl rfl (D 46 rfl) ?_
          refine j_aload_n C (D 47 rfl) rfl ?_
          refine j_cVp C B k_X12_106 (rc_obj C (lit (kd := 12) (n := 48) rfl) rfl rfl) (d_goodT _ _ hL (by rw [up2_i (by omega)]; exact hg2)) rfl rfl rfl rfl ⟨Nat.le_refl _, Nat.le_refl _⟩ (D 48 rfl) ?_
          refine j_if_eq C  105 (D 49 rfl) (by decide) (fun h98 => absurd h98 (by decide)) (fun h98 => ?_)
          refine j_aload_n C (D 50 rfl) rfl ?_
          refine j_callV C B k_X12_158 (rc_obj C (lit (kd := 12) (n := 48) rfl) rfl rfl) (d_advance _ _ hL hb (MS_go hS2 (Fx.up (Fx.rf (fun b j => b = 172 ∧ j = 16) _) ⟨rfl, rfl⟩) (fun b j z => by omega)) (tok_lt_n (by rw [hs]; decide))) rfl rfl rfl rfl ⟨Nat.le_refl _, Nat.le_refl _⟩ (D 51 rfl) ?_
          rintro r w' ⟨rfl, I3, rfl, F3, hS3⟩
          exact j_vret C P rfl (D 52 rfl) ⟨Nat.le_refl _, Nat.le_refl _⟩ (MX_o (a := ((tiV V (nI 2), true), i + 2)) (by rw [if_neg ht]; unfold pTie; rw [htio, if_neg (by decide)]) (Fx.tr (Fx.up hF2 (Or.inl ⟨rfl, by omega⟩)) (F3.mo aPl)) (by rw [F3 _ _ (fun z => by unfold aP at z; omega), up2_i (by omega)]; exact hg2) (by rw [F3 _ _ (fun z => by unfold aP at z; omega), up2_i (by omega), F2 _ _ (fun z => by unfold aP at z; omega), up2_i (by omega)]) ⟨hS3, MD_r (V := tiV V (nI 2)) (WV_ti hV (by decide)) (MD_ti hV (MD_r hV hD hF2s (fun b j z => z))) F3 aPM, by rw [F3 _ _ (fun z => by unfold aP at z; omega), up2_i (by omega), F2 _ _ (fun z => by unfold aP at z; omega), up2_same]; rfl⟩)
      · refine j_iconst C (v := nI 1) (D 26 rfl) rfl ?_
        refine j_goto C 74 (D 27 rfl) (by decide) ?_
        have hs : (tok f n (i + 1)).1 = 12 := b2_ne h52
        have htio : tio (tok f n (i + 1)).1 = 1 := by rw [hs]; rfl
        have hlt2 := lt_sg hN hlt hs (by decide)
        refine j_istore_n C (D 35 rfl) rfl ?_
        refine j_iload_n C (D 36 rfl) rfl ?_
        refine j_iconst C (v := (-1)) (D 37 rfl) (by decide) ?_
        refine j_icmp_ne C  89 (D 38 rfl) (by decide) (fun h77 => ?_) (fun h77 => absurd h77 (by decide))
        refine j_aload_n C (D 44 rfl) rfl ?_
        refine j_iload_n C (D 45 rfl) rfl ?_
        refine j_puti C f_X12_268 (lit (kd := 12) (n := 48) rfl) rfl rfl (D 46 rfl) ?_
        refine j_aload_n C (D 47 rfl) rfl ?_
        refine j_cVp C B k_X12_106 (rc_obj C (lit (kd := 12) (n := 48) rfl) rfl rfl) (d_goodT _ _ hL (by rw [up2_i (by omega)]; exact hg2)) rfl rfl rfl rfl ⟨Nat.le_refl _, Nat.le_refl _⟩ (D 48 rfl) ?_
        refine j_if_eq C  105 (D 49 rfl) (by decide) (fun h98 => absurd h98 (by decide)) (fun h98 => ?_)
        refine j_aload_n C (D 50 rfl) rfl ?_
        refine j_callV C B k_X12_158 (rc_obj C (lit (kd := 12) (n := 48) rfl) rfl rfl) (d_advance _ _ hL hb (MS_go hS2 (Fx.up (Fx.rf (fun b j => b = 172 ∧ j = 16) _) ⟨rfl, rfl⟩) (fun b j z => by omega)) (tok_lt_n (by rw [hs]; decide))) rfl rfl rfl rfl ⟨Nat.le_refl _, Nat.le_refl _⟩ (D 51 rfl) ?_
        rintro r w' ⟨rfl, I3, rfl, F3, hS3⟩
        exact j_vret C P rfl (D 52 rfl) ⟨Nat.le_refl _, Nat.le_refl _⟩ (MX_o (a := ((tiV V (nI 1), true), i + 2)) (by rw [if_neg ht]; unfold pTie; rw [htio, if_neg (by decide)]) (Fx.tr (Fx.up hF2 (Or.inl ⟨rfl, by omega⟩)) (F3.mo aPl)) (by rw [F3 _ _ (fun z => by unfold aP at z; omega), up2_i (by omega)]; exact hg2) (by rw [F3 _ _ (fun z => by unfold aP at z; omega), up2_i (by omega), F2 _ _ (fun z => by unfold aP at z; omega), up2_i (by omega)]) ⟨hS3, MD_r (V := tiV V (nI 1)) (WV_ti hV (by decide)) (MD_ti hV (MD_r hV hD hF2s (fun b j z => z))) F3 aPM, by rw [F3 _ _ (fun z => by unfold aP at z; omega), up2_i (by omega), F2 _ _ (fun z => by unfold aP at z; omega), up2_same]; rfl⟩)
    · refine j_iconst C (v := nI 0) (D 20 rfl) rfl ?_
      refine j_goto C 74 (D 21 rfl) (by decide) ?_
      have hs : (tok f n (i + 1)).1 = 11 := b2_ne h39
      have htio : tio (tok f n (i + 1)).1 = 0 := by rw [hs]; rfl
      have hlt2 := lt_sg hN hlt hs (by decide)
      refine j_istore_n C (D 35 rfl) rfl ?_
      refine j_iload_n C (D 36 rfl) rfl ?_
      refine j_iconst C (v := (-1)) (D 37 rfl) (by decide) ?_
      refine j_icmp_ne C  89 (D 38 rfl) (by decide) (fun h77 => ?_) (fun h77 => absurd h77 (by decide))
      refine j_aload_n C (D 44 rfl) rfl ?_
      refine j_iload_n C (D 45 rfl) rfl ?_
      refine j_puti C f_X12_268 (lit (kd := 12) (n := 48) rfl) rfl rfl (D 46 rfl) ?_
      refine j_aload_n C (D 47 rfl) rfl ?_
      refine j_cVp C B k_X12_106 (rc_obj C (lit (kd := 12) (n := 48) rfl) rfl rfl) (d_goodT _ _ hL (by rw [up2_i (by omega)]; exact hg2)) rfl rfl rfl rfl ⟨Nat.le_refl _, Nat.le_refl _⟩ (D 48 rfl) ?_
      refine j_if_eq C  105 (D 49 rfl) (by decide) (fun h98 => absurd h98 (by decide)) (fun h98 => ?_)
      refine j_aload_n C (D 50 rfl) rfl ?_
      refine j_callV C B k_X12_158 (rc_obj C (lit (kd := 12) (n := 48) rfl) rfl rfl) (d_advance _ _ hL hb (MS_go hS2 (Fx.up (Fx.rf (fun b j => b = 172 ∧ j = 16) _) ⟨rfl, rfl⟩) (fun b j z => by omega)) (tok_lt_n (by rw [hs]; decide))) rfl rfl rfl rfl ⟨Nat.le_refl _, Nat.le_refl _⟩ (D 51 rfl) ?_
      rintro r w' ⟨rfl, I3, rfl, F3, hS3⟩
      exact j_vret C P rfl (D 52 rfl) ⟨Nat.le_refl _, Nat.le_refl _⟩ (MX_o (a := ((tiV V (nI 0), true), i + 2)) (by rw [if_neg ht]; unfold pTie; rw [htio, if_neg (by decide)]) (Fx.tr (Fx.up hF2 (Or.inl ⟨rfl, by omega⟩)) (F3.mo aPl)) (by rw [F3 _ _ (fun z => by unfold aP at z; omega), up2_i (by omega)]; exact hg2) (by rw [F3 _ _ (fun z => by unfold aP at z; omega), up2_i (by omega), F2 _ _ (fun z => by unfold aP at z; omega), up2_i (by omega)]) ⟨hS3, MD_r (V := tiV V (nI 0)) (WV_ti hV (by decide)) (MD_ti hV (MD_r hV hD hF2s (fun b j z => z))) F3 aPM, by rw [F3 _ _ (fun z => by unfold aP at z; omega), up2_i (by omega), F2 _ _ (fun z => by unfold aP at z; omega), up2_same]; rfl⟩)
  · have ht : tt = true := b2_ne h4
    refine j_aload_n C (D 3 rfl) rfl ?_
    refine j_iconst C (v := nI 3) (D 4 rfl) rfl ?_
    refine j_aload_n C (D 5 rfl) rfl ?_
    refine j_geti C f_X12_120 (lit (kd := 12) (n := 48) rfl) rfl rfl (D 6 rfl) ?_
    rw [hS.2.1]
    refine j_callV C B k_X12_168 (rc_obj C (lit (kd := 12) (n := 48) rfl) rfl rfl) (d_errsT _ _ hL hg _ _) rfl rfl rfl rfl ⟨Nat.le_refl _, Nat.le_refl _⟩ (D 7 rfl) ?_
    rintro r w' ⟨rfl, rfl⟩
    have hdd : ¬ up2 (up2 (up2 I 172 34 (nI 3)) 172 35 (nI (spo f n i))) 172 18 (nI 1) 172 34 = 0 := dd_of (k := 3) (by rw [up2_i (by omega), up2_i (by omega), up2_same]) (by omega)
    refine j_aload_n C (D 8 rfl) rfl ?_
    refine j_iconst C (v := nI 1) (D 9 rfl) rfl ?_
    refine j_putz C f_X12_260 (lit (kd := 12) (n := 48) rfl) rfl rfl (D 10 rfl) (by first | exact Or.inl rfl | exact Or.inr rfl) ?_
    refine j_aload_n C (D 11 rfl) rfl ?_
    refine j_cVp C B k_X12_106 (rc_obj C (lit (kd := 12) (n := 48) rfl) rfl rfl) (d_goodF _ _ hL hdd) rfl rfl rfl rfl ⟨Nat.le_refl _, Nat.le_refl _⟩ (D 12 rfl) ?_
    refine j_if_eq C  32 (D 13 rfl) (by decide) (fun h25 => ?_) (fun h25 => absurd h25 (fun z => z rfl))
    refine j_aload_n C (D 16 rfl) rfl ?_
    refine j_ldc_wS C (i := 11) (by decide) rfl (D 17 rfl) ?_
    refine j_cVp C B k_X12_154 (rc_obj C (lit (kd := 12) (n := 48) rfl) rfl rfl) (d_isWordF _ _ hL hdd 11 (by decide)) rfl rfl rfl rfl ⟨Nat.le_refl _, Nat.le_refl _⟩ (D 18 rfl) ?_
    refine j_if_eq C  46 (D 19 rfl) (by decide) (fun h39 => ?_) (fun h39 => absurd h39 (fun z => z rfl))
    refine j_aload_n C (D 22 rfl) rfl ?_
    refine j_ldcS C (i := 12) (by decide) rfl (D 23 rfl) ?_
    refine j_cVp C B k_X12_154 (rc_obj C (lit (kd := 12) (n := 48) rfl) rfl rfl) (d_isWordF _ _ hL hdd 12 (by decide)) rfl rfl rfl rfl ⟨Nat.le_refl _, Nat.le_refl _⟩ (D 24 rfl) ?_
    refine j_if_eq C  59 (D 25 rfl) (by decide) (fun h52 => ?_) (fun h52 => absurd h52 (fun z => z rfl))
    refine j_aload_n C (D 28 rfl) rfl ?_
    refine j_ldc_wS C (i := 13) (by decide) rfl (D 29 rfl) ?_
    refine j_cVp C B k_X12_154 (rc_obj C (lit (kd := 12) (n := 48) rfl) rfl rfl) (d_isWordF _ _ hL hdd 13 (by decide)) rfl rfl rfl rfl ⟨Nat.le_refl _, Nat.le_refl _⟩ (D 30 rfl) ?_
    refine j_if_eq C  73 (D 31 rfl) (by decide) (fun h66 => ?_) (fun h66 => absurd h66 (fun z => z rfl))
    refine j_iconst C (v := (-1)) (D 34 rfl) (by decide) ?_
    refine j_istore_n C (D 35 rfl) rfl ?_
    refine j_iload_n C (D 36 rfl) rfl ?_
    refine j_iconst C (v := (-1)) (D 37 rfl) (by decide) ?_
    refine j_icmp_ne C  89 (D 38 rfl) (by decide) (fun h77 => absurd h77 (fun z => z rfl)) (fun h77 => ?_)
    refine j_aload_n C (D 39 rfl) rfl ?_
    refine j_iconst C (v := nI 1) (D 40 rfl) rfl ?_
    refine j_aload_n C (D 41 rfl) rfl ?_
    refine j_geti C f_X12_120 (lit (kd := 12) (n := 48) rfl) rfl rfl (D 42 rfl) ?_
    refine j_callV C B k_X12_168 (rc_obj C (lit (kd := 12) (n := 48) rfl) rfl rfl) (d_errsF _ _ hL hdd _ _) rfl rfl rfl rfl ⟨Nat.le_refl _, Nat.le_refl _⟩ (D 43 rfl) ?_
    rintro r w' ⟨rfl, rfl⟩
    refine j_aload_n C (D 44 rfl) rfl ?_
    refine j_iload_n C (D 45 rfl) rfl ?_
    refine j_puti C f_X12_268 (lit (kd := 12) (n := 48) rfl) rfl rfl (D 46 rfl) ?_
    refine j_aload_n C (D 47 rfl) rfl ?_
    refine j_cVp C B k_X12_106 (rc_obj C (lit (kd := 12) (n := 48) rfl) rfl rfl) (d_goodF _ _ hL (by rw [up2_i (by omega)]; exact hdd)) rfl rfl rfl rfl ⟨Nat.le_refl _, Nat.le_refl _⟩ (D 48 rfl) ?_
    refine j_if_eq C  105 (D 49 rfl) (by decide) (fun h98 => ?_) (fun h98 => absurd h98 (fun z => z rfl))
    exact j_vret C P rfl (D 52 rfl) ⟨Nat.le_refl _, Nat.le_refl _⟩ (MX_e (e := fl (tok f n) i 3) (by rw [if_pos ht]) (Fx.up (Fx.up (Fx.up (Fx.up (Fx.rf _ _) (Or.inl ⟨rfl, by omega⟩)) (Or.inl ⟨rfl, by omega⟩)) (Or.inl ⟨rfl, by omega⟩)) (Or.inl ⟨rfl, by omega⟩)) (by rw [up2_i (by omega), up2_i (by omega), up2_i (by omega), up2_same]; rfl) (by rw [up2_i (by omega), up2_i (by omega), up2_same]; show _ = nI (tok f n i).2.1; rw [tok_2]))

def evR (T : Nat → TK) (V : VT) (tt : Bool) (i : Nat) : RS LST := bnd (pEv T (i + 1)) fun x => .inr ((addEv V x.1, tt), x.2)
theorem evR_e {T : Nat → TK} {V : VT} {tt : Bool} {i : Nat} {e : Nat × Nat} (h2 : ¬ (T (i + 1)).1 = 2) (h : pTake T (i + 1) 1 = .inl e) : evR T V tt i = .inl e := by
  unfold evR pEv
  unfold pTake at h
  by_cases z : (T (i + 1)).1 = 1
  · rw [if_pos z] at h; cases h
  · rw [if_neg z] at h
    rw [if_neg (by intro y; rcases y with y | y; exact h2 y; exact z y), bnd_l]
    cases h
    rfl
theorem pCur_01 {T : Nat → TK} {N i j : Nat} {E E2 : Nat → Int32} (hT : TN T N) (hi : i ≤ N) (h : pCur T i E = .inr (E2, j)) : E2 0 = E 0 ∧ E2 1 = E 1 := by
  unfold pCur at h
  by_cases c : (T i).1 = 9
  · rw [if_pos c] at h
    have hi2 := lt_of_T hT.2.1 hi (show ¬ (T i).1 = 41 by omega)
    obtain ⟨⟨⟨n2, E3⟩, j2⟩, h2, h3⟩ := bnd_in h
    cases h3
    have hI : TBI E 0 0 0 := ⟨by omega, by omega, by omega, fun k z => by omega, fun k z => by omega, fun _ => ⟨rfl, rfl⟩, fun k z => by omega⟩
    rcases pTab_go hT 9 0 0 0 E i n2 E3 j2 rfl hi2 hI h2 with z | ⟨z1, z2, z3, -, z5⟩
    · omega
    · unfold tbE
      rw [vu_ne _ _ (by omega), vu_ne _ _ (by omega), vu_ne _ _ (by omega), vu_ne _ _ (by omega), vu_ne _ _ (by omega), vu_ne _ _ (by omega)]
      exact ⟨z5 0 (by omega), z5 1 (by omega)⟩
  · rw [if_neg c] at h
    by_cases c2 : crv (T i).1 = 99
    · rw [if_pos c2] at h; cases h
    · rw [if_neg c2] at h
      unfold pFor at h
      obtain ⟨⟨a, j1⟩, g1, h⟩ := bnd_in h
      obtain ⟨j2, g2, h⟩ := bnd_in h
      obtain ⟨⟨d, j3⟩, g3, h⟩ := bnd_in h
      cases h
      rw [vu_ne _ _ (by omega), vu_ne _ _ (by omega), vu_ne _ _ (by omega), vu_ne _ _ (by omega), vu_ne _ _ (by omega), vu_ne _ _ (by omega)]
      exact ⟨rfl, rfl⟩
theorem TR_mk {I I' : Nat → Nat → Int32} {t s : Nat} {E : Nat → Int32} (h0 : I t 0 = E 0) (h1 : I t 1 = E 1) (hc : TRc I t E) (hF : ∀ b j, (b = t ∧ ¬ j = 5) ∨ b = t + 1 ∨ b = t + 2 → I' b j = I b j) (h5 : I' t 5 = nI s) : TR I' t (va_up E 5 (nI s)) := by
  obtain ⟨c2, c3, c4⟩ := hc
  refine ⟨?_, ?_, ?_, ?_, fun z => ⟨?_, fun k hk => ⟨?_, ?_⟩⟩, fun z => ⟨?_, ?_⟩⟩
  · rw [hF _ _ (Or.inl ⟨rfl, by omega⟩), vu_ne _ _ (by omega)]; exact h0
  · rw [hF _ _ (Or.inl ⟨rfl, by omega⟩), vu_ne _ _ (by omega)]; exact h1
  · rw [hF _ _ (Or.inl ⟨rfl, by omega⟩), vu_ne _ _ (by omega)]; exact c2
  · rw [vu_same]; exact h5
  · rw [vu_ne _ _ (by omega)] at z
    rw [hF _ _ (Or.inl ⟨rfl, by omega⟩), vu_ne _ _ (by omega)]; exact (c3 z).1
  · rw [vu_ne _ _ (by omega)] at z hk
    rw [hF _ _ (Or.inr (Or.inl rfl)), vu_ne _ _ (by omega)]; exact ((c3 z).2 k hk).1
  · rw [vu_ne _ _ (by omega)] at z hk
    rw [hF _ _ (Or.inr (Or.inr rfl)), vu_ne _ _ (by omega)]; exact ((c3 z).2 k hk).2
  · rw [vu_ne _ _ (by omega)] at z
    rw [hF _ _ (Or.inl ⟨rfl, by omega⟩), vu_ne _ _ (by omega)]; exact (c4 z).1
  · rw [vu_ne _ _ (by omega)] at z
    rw [hF _ _ (Or.inl ⟨rfl, by omega⟩), vu_ne _ _ (by omega)]; exact (c4 z).2
theorem CT_ev {I I' : Nat → Nat → Int32} {c : Nat} {V : VT} {E : Nat → Int32} (hE : vE V < 10) (h : CT I c V) (hF : ∀ b j, c ≤ b → b < c + 40 → ¬ (b = c ∧ j = 5) → ¬ (c + 10 + 3 * vE V ≤ b ∧ b ≤ c + 10 + 3 * vE V + 2) → I' b j = I b j) (h5 : I' c 5 = nI (vE V + 1)) (hT : TR I' (c + 10 + 3 * vE V) E) : CT I' c (addEv V E) := by
  obtain ⟨a0, a1, a2, a3, a4, a5, a6, a7, a8, a9, a10⟩ := h
  refine ⟨h5, ?_, ?_, ?_, fun e he => ?_, fun b e hb he => ?_, fun k hk => ?_, fun k hk => ?_, fun k hk x q hq => ?_, ?_, ?_⟩
  · rw [hF _ _ (by omega) (by omega) (by omega) (by omega)]; exact a1
  · rw [hF _ _ (by omega) (by omega) (by omega) (by omega)]; exact a2
  · rw [hF _ _ (by omega) (by omega) (by omega) (by omega)]; exact a3
  · have he : e < vE V + 1 := he
    show TR I' (c + 10 + 3 * e) (va_up (vev V) (vE V) E e)
    by_cases q : e = vE V
    · rw [q, vu_same]; exact hT
    · rw [vu_ne _ _ q]
      exact TR_of (a4 e (by omega)) (fun k => hF _ _ (by omega) (by omega) (by omega) (by omega)) (fun k => hF _ _ (by omega) (by omega) (by omega) (by omega)) (fun k => hF _ _ (by omega) (by omega) (by omega) (by omega))
  · rw [hF _ _ (by omega) (by omega) (by omega) (by omega), hF _ _ (by omega) (by omega) (by omega) (by omega), hF _ _ (by omega) (by omega) (by omega) (by omega)]; exact a5 b e hb he
  · rw [hF _ _ (by omega) (by omega) (by omega) (by omega)]; exact a6 k hk
  · rw [hF _ _ (by omega) (by omega) (by omega) (by omega)]; exact a7 k hk
  · rw [hF _ _ (by omega) (by omega) (by omega) (by omega)]; exact a8 k hk x q hq
  · rw [hF _ _ (by omega) (by omega) (by omega) (by omega)]; exact a9
  · rw [hF _ _ (by omega) (by omega) (by omega) (by omega)]; exact a10
theorem tS0l {c e : Nat} (he : e < 10) (b j : Nat) (h : tS0 (c + 10 + 3 * e) b j) : lP0 c b j := by unfold tS0 at h; unfold lP0; omega
theorem tS1l {c e : Nat} (he : e < 10) (b j : Nat) (h : tS1 (c + 10 + 3 * e) b j) : lP1 c b j := by unfold tS1 at h; unfold lP1; omega
set_option maxRecDepth 20000 in
theorem c_readEvent (l : Launch) (G : GT) {c : Nat} (hc : isC c) {I : Nat → Nat → Int32} {L : Nat → Nat → Int64} {R : Nat → Nat → Option Nat} (hL : Lay R) {T : Nat → TK} {N i : Nat} {V : VT} (hN : TN T N) (hP : LPr I R T N c V i) (tt : Bool) (htt : I 4 7 = b2 (tt = true)) (hlt : i < N) (hE : vE V < 10) : Mt l G mX4_readEvent (4) 0 0 [.ref (ra G 4)] (wd I L R) (PX I L R (lP0 c) (lP1 c) (lO c) (evR T V tt i)) := by
  refine mt_of (own := RX4) (by decide) rfl rfl (fun Z C P B => ?_)
  have D := @dc_of _ _ dX4_readEvent
  have hr3 := hP.2.1
  have hcr := isC_rng hc
  have hN1 := hN.1
  have hi1 := hP.1.2.2
  have hT := hP.2.2.1
  have hV := hP.2.2.2.1
  have hE10 := hV.1
  have hA8 := hV.2.1
  have ht := isT_of hc hE
  have f1 : Fx (lP0 c) I (up2 (up2 I 4 4 (nI (i + 1))) (c + 10 + 3 * vE V) 0 (b2 ((T (i + 1)).1 = 2))) := Fx.up (adv_F.mo (rP0l c)) (Or.inr (by omega))
  have hSb := SE_go hP.1 (adv_F (v := nI (i + 1))) (fun b k z => by have := z.1; omega) (up2_same _ _ _ _) hlt
  have hSa : SE (up2 (up2 I 4 4 (nI (i + 1))) (c + 10 + 3 * vE V) 0 (b2 ((T (i + 1)).1 = 2))) R T N (i + 1) := SE_go hP.1 f1 (fun b k z => by unfold lP0 at z; omega) (by rw [up2_i (by omega), up2_same]) hlt
  refine j_aload_n C (D 0 rfl) rfl ?_
  refine j_callV C B k_X4_77 (rc_obj C (lit (kd := 4) (n := 8) rfl) rfl rfl) (c_advance _ _ hL hN hP.1 hlt) rfl rfl rfl rfl ⟨Nat.le_refl _, Nat.le_refl _⟩ (D 1 rfl) ?_
  rintro r w' ⟨rfl, rfl⟩
  refine j_pop C (D 2 rfl) rfl ?_
  refine j_aload_n C (D 3 rfl) rfl ?_
  refine j_getr C f_X4_25 (lit (kd := 4) (n := 8) rfl) rfl rfl hr3 (D 4 rfl) ?_
  refine j_getr C f_X4_157 (sC0 hc) rfl rfl (hL _ _ _ (rC0 hc)) (D 5 rfl) ?_
  refine j_aload_n C (D 6 rfl) rfl ?_
  refine j_getr C f_X4_25 (lit (kd := 4) (n := 8) rfl) rfl rfl hr3 (D 7 rfl) ?_
  refine j_geti C f_X4_104 (sC0 hc) rfl rfl (D 8 rfl) ?_
  rw [up2_i (by omega), hT.1]
  refine j_aald C (kd := 1) (sC1 hc) rfl (ix_n (by omega) (by decide)) (hL _ _ _ (rCT hc hE)) (D 9 rfl) ?_
  refine j_astore_n C (D 10 rfl) rfl ?_
  refine j_aload_n C (D 11 rfl) rfl ?_
  refine j_aload_n C (D 12 rfl) rfl ?_
  refine j_gsgn C (i := 2) (by decide) s_X4_161 (D 13 rfl) ?_
  refine j_cVp C B k_X4_52 (rc_obj C (lit (kd := 4) (n := 8) rfl) rfl rfl) (c_sees _ _ hL hN hSb (by decide)) rfl rfl rfl rfl ⟨Nat.le_refl _, Nat.le_refl _⟩ (D 14 rfl) ?_
  refine j_putz C f_X4_164 (sT0 ht) rfl rfl (D 15 rfl) (isB_b2 _) ?_
  refine j_aload_n C (D 16 rfl) rfl ?_
  refine j_aload_n C (D 17 rfl) rfl ?_
  refine j_geti C f_X4_164 (sT0 ht) rfl rfl (D 18 rfl) ?_
  rw [up2_same]
  refine j_if_eq C  46 (D 19 rfl) (by decide) (fun h37 => ?_) (fun h37 => ?_)
  · refine j_gsgn C (i := 1) (by decide) s_X4_169 (D 22 rfl) ?_
    refine j_callV C B k_X4_63 (rc_obj C (lit (kd := 4) (n := 8) rfl) rfl rfl) (c_take _ _ hL hN hSa (s := 1) (by decide)) rfl rfl rfl rfl ⟨Nat.le_refl _, Nat.le_refl _⟩ (D 23 rfl) ?_
    rintro r w' ⟨rfl, I2, rfl, k0, k1⟩
    refine j_if_eq C  75 (D 24 rfl) (by decide) (fun h52 => ?_) (fun h52 => ?_)
    · obtain ⟨e, hq1⟩ := okB_eq h52
      obtain ⟨z0, z1, z2⟩ := k0 e hq1
      refine j_iconst C (v := nI 0) (D 34 rfl) rfl ?_
      exact j_zret C P rfl (by first | exact Or.inl rfl | exact Or.inr rfl | assumption) (D 35 rfl) ⟨Nat.le_refl _, Nat.le_refl _⟩ (PX_e (e := e) (evR_e (b2_eq h37) hq1) z0 z1 ((f1.mo (lP01 c)).tr (z2.mo (rP1l c))))
    · obtain ⟨j, hq1⟩ := okB_ne h52
      obtain ⟨z0, zF⟩ := k1 j hq1
      have hs12 : (T (i + 1)).1 = 2 ∨ (T (i + 1)).1 = 1 := Or.inr (pTake_in hq1).1
      have z0 : I2 4 4 = nI j := z0
      obtain ⟨b1, b2⟩ := pTake_go hN hlt (by omega) hq1
      subst b2
      have f2 := f1.tr (zF.mo (rP0l c))
      have hS2 := SE_go hP.1 f2 (fun b k z => by unfold lP0 at z; omega) z0 b1
      refine j_aload_n C (D 25 rfl) rfl ?_
      refine j_gsgn C (i := 3) (by decide) s_X4_172 (D 26 rfl) ?_
      refine j_callV C B k_X4_63 (rc_obj C (lit (kd := 4) (n := 8) rfl) rfl rfl) (c_take _ _ hL hN hS2 (by decide)) rfl rfl rfl rfl ⟨Nat.le_refl _, Nat.le_refl _⟩ (D 27 rfl) ?_
      rintro r w' ⟨rfl, I3, rfl, k2, k3⟩
      refine j_if_eq C  75 (D 28 rfl) (by decide) (fun h62 => ?_) (fun h62 => ?_)
      · obtain ⟨e2, hq2⟩ := okB_eq h62
        obtain ⟨x0, x1, x2⟩ := k2 e2 hq2
        refine j_iconst C (v := nI 0) (D 34 rfl) rfl ?_
        exact j_zret C P rfl (by first | exact Or.inl rfl | exact Or.inr rfl | assumption) (D 35 rfl) ⟨Nat.le_refl _, Nat.le_refl _⟩ (PX_e (e := e2) (by unfold evR pEv; rw [if_pos hs12, hq2, bnd_l, bnd_l]) x0 x1 ((f2.mo (lP01 c)).tr (x2.mo (rP1l c))))
      · obtain ⟨j, hq2⟩ := okB_ne h62
        obtain ⟨x0, xF⟩ := k3 j hq2
        have x0 : I3 4 4 = nI j := x0
        obtain ⟨d1, d2⟩ := pTake_go hN b1 (by omega) hq2
        have f3 := f2.tr (xF.mo (rP0l c))
        have hS3 := SE_go hP.1 f3 (fun b k z => by unfold lP0 at z; omega) x0 (by omega)
        refine j_aload_n C (D 29 rfl) rfl ?_
        refine j_iconst C (v := nI 0) (D 30 rfl) rfl ?_
        refine j_ldc C (v := 99999) (D 31 rfl) n_X4_175 ?_
        refine j_callV C B k_X4_100 (rc_obj C (lit (kd := 4) (n := 8) rfl) rfl rfl) (c_takeNumber _ _ hL hN hS3 (lo := 0) (hx := 100000) (hi := 99999) (by omega) (by omega) (by decide)) rfl rfl rfl rfl ⟨Nat.le_refl _, Nat.le_refl _⟩ (D 32 rfl) ?_
        rintro r w' ⟨rfl, I4, rfl, k4, k5⟩
        refine j_if_ne C  77 (D 33 rfl) (by decide) (fun h72 => ?_) (fun h72 => ?_)
        · obtain ⟨⟨bb, j2⟩, hq3⟩ := okB_ne h72
          obtain ⟨⟨y0, yv⟩, yF⟩ := k5 _ hq3
          have y0 : I4 4 4 = nI j2 := y0
          have yv : I4 4 5 = nI bb := yv
          obtain ⟨g1, g2, g3, g4⟩ := pNum_go hN (by omega) hq3
          have f5 : Fx (lP0 c) I (up2 I4 (c + 10 + 3 * vE V) 1 (nI bb)) := Fx.up (f3.tr (yF.mo (rP0l c))) (Or.inr (by omega))
          have hS4 : SE (up2 I4 (c + 10 + 3 * vE V) 1 (nI bb)) R T N j2 := SE_go hP.1 f5 (fun b k z => by unfold lP0 at z; omega) (by rw [up2_i (by omega)]; exact y0) (by omega)
          refine j_aload_n C (D 36 rfl) rfl ?_
          refine j_aload_n C (D 37 rfl) rfl ?_
          refine j_geti C f_X4_90 (lit (kd := 4) (n := 8) rfl) rfl rfl (D 38 rfl) ?_
          rw [yv]
          refine j_puti C f_X4_176 (sT0 ht) rfl rfl (D 39 rfl) ?_
          refine j_aload_n C (D 40 rfl) rfl ?_
          refine j_gsgn C (i := 9) (by decide) s_X4_179 (D 41 rfl) ?_
          refine j_cVp C B k_X4_52 (rc_obj C (lit (kd := 4) (n := 8) rfl) rfl rfl) (c_sees _ _ hL hN hS4 (by decide)) rfl rfl rfl rfl ⟨Nat.le_refl _, Nat.le_refl _⟩ (D 42 rfl) ?_
          refine j_if_eq C  103 (D 43 rfl) (by decide) (fun h92 => ?_) (fun h92 => ?_)
          · refine j_aload_n C (D 48 rfl) rfl ?_
            refine j_aload_n C (D 49 rfl) rfl ?_
            refine j_callV C B k_X4_186 (rc_obj C (lit (kd := 4) (n := 8) rfl) rfl rfl) (c_readFormula _ _ hL ht hN hS4 (E := fbE (T (i + 1)).1 bb) (b2_eq h92)) rfl rfl rfl rfl ⟨Nat.le_refl _, Nat.le_refl _⟩ (D 50 rfl) ?_
            rintro r w' ⟨rfl, I5, rfl, k6, k7⟩
            refine j_istore_n C (D 51 rfl) rfl ?_
            refine j_iload_n C (D 52 rfl) rfl ?_
            refine j_if_ne C  115 (D 53 rfl) (by decide) (fun h110 => ?_) (fun h110 => ?_)
            · obtain ⟨⟨E2, j3⟩, hq4⟩ := okB_ne h110
              obtain ⟨⟨u0, uC⟩, uF⟩ := k7 _ hq4
              have u0 : I5 4 4 = nI j3 := u0
              have uC : TRc I5 (c + 10 + 3 * vE V) E2 := uC
              obtain ⟨m0, m1⟩ := pCur_01 hN (by omega) hq4
              have hj3 : j3 ≤ N := (pCur_go hN (by omega) (by unfold fbE; rw [vu_ne _ _ (by omega), vu_same]; by_cases z : (T (i + 1)).1 = 2 <;> simp [z] <;> decide) (by unfold fbE; rw [vu_same, nI_int (by omega)]; omega) hq4).2.1
              have h50 : I5 (c + 10 + 3 * vE V) 0 = E2 0 := by
                rw [uF _ _ (fun z => by unfold tS0 at z; omega), up2_i (by omega), yF _ _ (fun z => by have := z.1; omega), xF _ _ (fun z => by have := z.1; omega), zF _ _ (fun z => by have := z.1; omega), up2_same, m0]
                unfold fbE b2
                rw [vu_ne _ _ (by omega), vu_same]
                by_cases z : (T (i + 1)).1 = 2
                · rw [if_pos z, if_pos z]; rfl
                · rw [if_neg z, if_neg z]; rfl
              have h51 : I5 (c + 10 + 3 * vE V) 1 = E2 1 := by
                rw [uF _ _ (fun z => by unfold tS0 at z; omega), up2_same, m1]
                unfold fbE
                rw [vu_same]
              have f6 := f5.tr (uF.mo (tS0l hE))
              have f7 : Fx (lP0 c) I (up2 I5 (c + 10 + 3 * vE V) 5 (nI 0)) := Fx.up f6 (Or.inr (by omega))
              have hS7 : SE (up2 I5 (c + 10 + 3 * vE V) 5 (nI 0)) R T N j3 := SE_go hP.1 f7 (fun b k z => by unfold lP0 at z; omega) (by rw [up2_i (by omega)]; exact u0) hj3
              have g7 : ∀ b j, c ≤ b → b < c + 40 → ¬ (c + 10 + 3 * vE V ≤ b ∧ b ≤ c + 10 + 3 * vE V + 2) → up2 I5 (c + 10 + 3 * vE V) 5 (nI 0) b j = I b j := fun b j q1 q2 q4 => by
                rw [up2_i (by omega), uF _ _ (fun z => by unfold tS0 at z; omega), up2_i (by omega), yF _ _ (fun z => by have := z.1; omega), xF _ _ (fun z => by have := z.1; omega), zF _ _ (fun z => by have := z.1; omega), up2_i (by omega), up2_i (by omega)]
              have f47 : up2 I5 (c + 10 + 3 * vE V) 5 (nI 0) 4 7 = I 4 7 := by
                rw [up2_i (by omega), uF _ _ (fun z => by unfold tS0 at z; omega), up2_i (by omega), yF _ _ (fun z => by unfold rP0 at z; omega), xF _ _ (fun z => by unfold rP0 at z; omega), zF _ _ (fun z => by unfold rP0 at z; omega), up2_i (by omega), up2_i (by omega)]
              refine j_aload_n C (D 56 rfl) rfl ?_
              refine j_iconst C (v := nI 0) (D 57 rfl) rfl ?_
              refine j_puti C f_X4_189 (sT0 ht) rfl rfl (D 58 rfl) ?_
              refine j_aload_n C (D 59 rfl) rfl ?_
              refine j_gsgn C (i := 5) (by decide) s_X4_192 (D 60 rfl) ?_
              refine j_cVp C B k_X4_52 (rc_obj C (lit (kd := 4) (n := 8) rfl) rfl rfl) (c_sees _ _ hL hN hS7 (by decide)) rfl rfl rfl rfl ⟨Nat.le_refl _, Nat.le_refl _⟩ (D 61 rfl) ?_
              refine j_if_eq C  156 (D 62 rfl) (by decide) (fun h127 => ?_) (fun h127 => ?_)
              · refine j_aload_n C (D 77 rfl) rfl ?_
                refine j_getr C f_X4_25 (lit (kd := 4) (n := 8) rfl) rfl rfl hr3 (D 78 rfl) ?_
                refine j_dup C (D 79 rfl) rfl ?_
                refine j_geti C f_X4_104 (sC0 hc) rfl rfl (D 80 rfl) ?_
                rw [g7 c 5 (by omega) (by omega) (by omega), hT.1]
                refine j_iconst C (v := nI 1) (D 81 rfl) rfl ?_
                refine j_iadd C (D 82 rfl) ?_
                rw [nI_add]
                refine j_puti C f_X4_104 (sC0 hc) rfl rfl (D 83 rfl) ?_
                refine j_iconst C (v := nI 1) (D 84 rfl) rfl ?_
                exact j_zret C P rfl (by first | exact Or.inl rfl | exact Or.inr rfl | assumption) (D 85 rfl) ⟨Nat.le_refl _, Nat.le_refl _⟩ (PX_o (a := ((addEv V (va_up E2 5 (nI 0)), tt), j3)) (by unfold evR pEv; rw [if_pos hs12, hq2, bnd_r, hq3, bnd_r, hq4, bnd_r, show pSpr T j3 = .inr (0, j3) from by unfold pSpr; rw [if_neg (b2_eq h127)], bnd_r, bnd_r]) ⟨by rw [up2_i (by omega), up2_i (by omega)]; exact u0, CT_ev hE hT (fun b j q1 q2 q3 q4 => by rw [up2_i q3]; exact g7 b j q1 q2 q4) (up2_same _ _ _ _) (TR_mk h50 h51 uC (fun b j q => by rw [up2_i (by omega), up2_i (by omega)]) (by rw [up2_i (by omega), up2_same])), by rw [up2_i (by omega), f47]; exact htt⟩ (Fx.up f7 (Or.inr (by omega))))
              · have hl3 := lt_sg hN hj3 (b2_ne h127) (by decide)
                have f8 : Fx (lP0 c) I (up2 (up2 I5 (c + 10 + 3 * vE V) 5 (nI 0)) 4 4 (nI (j3 + 1))) := f7.tr (adv_F.mo (rP0l c))
                have hS8 := SE_go hS7 (adv_F (v := nI (j3 + 1))) (fun b k z => by have := z.1; omega) (up2_same _ _ _ _) hl3
                refine j_aload_n C (D 63 rfl) rfl ?_
                refine j_callV C B k_X4_77 (rc_obj C (lit (kd := 4) (n := 8) rfl) rfl rfl) (c_advance _ _ hL hN hS7 hl3) rfl rfl rfl rfl ⟨Nat.le_refl _, Nat.le_refl _⟩ (D 64 rfl) ?_
                rintro r w' ⟨rfl, rfl⟩
                refine j_pop C (D 65 rfl) rfl ?_
                refine j_aload_n C (D 66 rfl) rfl ?_
                refine j_iconst C (v := nI 0) (D 67 rfl) rfl ?_
                refine j_sipush C (v := nI 999) (D 68 rfl) rfl ?_
                refine j_callV C B k_X4_100 (rc_obj C (lit (kd := 4) (n := 8) rfl) rfl rfl) (c_takeNumber _ _ hL hN hS8 (lo := 0) (hx := 1000) (hi := nI 999) (by omega) (by omega) (by decide)) rfl rfl rfl rfl ⟨Nat.le_refl _, Nat.le_refl _⟩ (D 69 rfl) ?_
                rintro r w' ⟨rfl, I6, rfl, k8, k9⟩
                refine j_if_ne C  148 (D 70 rfl) (by decide) (fun h143 => ?_) (fun h143 => ?_)
                · obtain ⟨⟨s, j4⟩, hq5⟩ := okB_ne h143
                  obtain ⟨⟨v0, vv⟩, vF⟩ := k9 _ hq5
                  have v0 : I6 4 4 = nI j4 := v0
                  have vv : I6 4 5 = nI s := vv
                  refine j_aload_n C (D 73 rfl) rfl ?_
                  refine j_aload_n C (D 74 rfl) rfl ?_
                  refine j_geti C f_X4_90 (lit (kd := 4) (n := 8) rfl) rfl rfl (D 75 rfl) ?_
                  rw [vv]
                  refine j_puti C f_X4_189 (sT0 ht) rfl rfl (D 76 rfl) ?_
                  refine j_aload_n C (D 77 rfl) rfl ?_
                  refine j_getr C f_X4_25 (lit (kd := 4) (n := 8) rfl) rfl rfl hr3 (D 78 rfl) ?_
                  refine j_dup C (D 79 rfl) rfl ?_
                  refine j_geti C f_X4_104 (sC0 hc) rfl rfl (D 80 rfl) ?_
                  rw [up2_i (by omega), vF _ _ (fun z => by have := z.1; omega), up2_i (by omega), g7 c 5 (by omega) (by omega) (by omega), hT.1]
                  refine j_iconst C (v := nI 1) (D 81 rfl) rfl ?_
                  refine j_iadd C (D 82 rfl) ?_
                  rw [nI_add]
                  refine j_puti C f_X4_104 (sC0 hc) rfl rfl (D 83 rfl) ?_
                  refine j_iconst C (v := nI 1) (D 84 rfl) rfl ?_
                  exact j_zret C P rfl (by first | exact Or.inl rfl | exact Or.inr rfl | assumption) (D 85 rfl) ⟨Nat.le_refl _, Nat.le_refl _⟩ (PX_o (a := ((addEv V (va_up E2 5 (nI s)), tt), j4)) (by unfold evR pEv; rw [if_pos hs12, hq2, bnd_r, hq3, bnd_r, hq4, bnd_r, show pSpr T j3 = .inr (s, j4) from by unfold pSpr; rw [if_pos (b2_ne h127)]; exact hq5, bnd_r, bnd_r]) ⟨by rw [up2_i (by omega), up2_i (by omega)]; exact v0, CT_ev hE hT (fun b j q1 q2 q3 q4 => by rw [up2_i q3, up2_i (by omega), vF _ _ (fun z => by have := z.1; omega), up2_i (by omega)]; exact g7 b j q1 q2 q4) (up2_same _ _ _ _) (TR_mk h50 h51 uC (fun b j q => by rw [up2_i (by omega), up2_i (by omega), vF _ _ (fun z => by have := z.1; omega), up2_i (by omega), up2_i (by omega)]) (by rw [up2_i (by omega), up2_same])), by rw [up2_i (by omega), up2_i (by omega), vF _ _ (fun z => by unfold rP0 at z; omega), up2_i (by omega), f47]; exact htt⟩ (Fx.up (Fx.up (f8.tr (vF.mo (rP0l c))) (Or.inr (by omega))) (Or.inr (by omega))))
                · obtain ⟨e5, hq5⟩ := okB_eq h143
                  obtain ⟨v0, v1, v2⟩ := k8 e5 hq5
                  refine j_iconst C (v := nI 0) (D 71 rfl) rfl ?_
                  exact j_zret C P rfl (by first | exact Or.inl rfl | exact Or.inr rfl | assumption) (D 72 rfl) ⟨Nat.le_refl _, Nat.le_refl _⟩ (PX_e (e := e5) (by unfold evR pEv; rw [if_pos hs12, hq2, bnd_r, hq3, bnd_r, hq4, bnd_r, show pSpr T j3 = .inl e5 from by unfold pSpr; rw [if_pos (b2_ne h127)]; exact hq5, bnd_l, bnd_l]) v0 v1 ((f8.mo (lP01 c)).tr (v2.mo (rP1l c))))
            · obtain ⟨e4, hq4⟩ := okB_eq h110
              obtain ⟨u0, u1, u2⟩ := k6 e4 hq4
              refine j_iconst C (v := nI 0) (D 54 rfl) rfl ?_
              exact j_zret C P rfl (by first | exact Or.inl rfl | exact Or.inr rfl | assumption) (D 55 rfl) ⟨Nat.le_refl _, Nat.le_refl _⟩ (PX_e (e := e4) (by unfold evR pEv; rw [if_pos hs12, hq2, bnd_r, hq3, bnd_r, hq4, bnd_l, bnd_l]) u0 u1 ((f5.mo (lP01 c)).tr (u2.mo (tS1l hE))))
          · refine j_aload_n C (D 44 rfl) rfl ?_
            refine j_aload_n C (D 45 rfl) rfl ?_
            refine j_callV C B k_X4_182 (rc_obj C (lit (kd := 4) (n := 8) rfl) rfl rfl) (c_readTable _ _ hL ht hN hS4 (E := fbE (T (i + 1)).1 bb) (b2_ne h92) (lt_sg hN hS4.2.2 (b2_ne h92) (by decide))) rfl rfl rfl rfl ⟨Nat.le_refl _, Nat.le_refl _⟩ (D 46 rfl) ?_
            rintro r w' ⟨rfl, I5, rfl, k6, k7⟩
            refine j_goto C 108 (D 47 rfl) (by decide) ?_
            refine j_istore_n C (D 51 rfl) rfl ?_
            refine j_iload_n C (D 52 rfl) rfl ?_
            refine j_if_ne C  115 (D 53 rfl) (by decide) (fun h110 => ?_) (fun h110 => ?_)
            · obtain ⟨⟨E2, j3⟩, hq4⟩ := okB_ne h110
              obtain ⟨⟨u0, uC⟩, uF⟩ := k7 _ hq4
              have u0 : I5 4 4 = nI j3 := u0
              have uC : TRc I5 (c + 10 + 3 * vE V) E2 := uC
              obtain ⟨m0, m1⟩ := pCur_01 hN (by omega) hq4
              have hj3 : j3 ≤ N := (pCur_go hN (by omega) (by unfold fbE; rw [vu_ne _ _ (by omega), vu_same]; by_cases z : (T (i + 1)).1 = 2 <;> simp [z] <;> decide) (by unfold fbE; rw [vu_same, nI_int (by omega)]; omega) hq4).2.1
              have h50 : I5 (c + 10 + 3 * vE V) 0 = E2 0 := by
                rw [uF _ _ (fun z => by unfold tS0 at z; omega), up2_i (by omega), yF _ _ (fun z => by have := z.1; omega), xF _ _ (fun z => by have := z.1; omega), zF _ _ (fun z => by have := z.1; omega), up2_same, m0]
                unfold fbE b2
                rw [vu_ne _ _ (by omega), vu_same]
                by_cases z : (T (i + 1)).1 = 2
                · rw [if_pos z, if_pos z]; rfl
                · rw [if_neg z, if_neg z]; rfl
              have h51 : I5 (c + 10 + 3 * vE V) 1 = E2 1 := by
                rw [uF _ _ (fun z => by unfold tS0 at z; omega), up2_same, m1]
                unfold fbE
                rw [vu_same]
              have f6 := f5.tr (uF.mo (tS0l hE))
              have f7 : Fx (lP0 c) I (up2 I5 (c + 10 + 3 * vE V) 5 (nI 0)) := Fx.up f6 (Or.inr (by omega))
              have hS7 : SE (up2 I5 (c + 10 + 3 * vE V) 5 (nI 0)) R T N j3 := SE_go hP.1 f7 (fun b k z => by unfold lP0 at z; omega) (by rw [up2_i (by omega)]; exact u0) hj3
              have g7 : ∀ b j, c ≤ b → b < c + 40 → ¬ (c + 10 + 3 * vE V ≤ b ∧ b ≤ c + 10 + 3 * vE V + 2) → up2 I5 (c + 10 + 3 * vE V) 5 (nI 0) b j = I b j := fun b j q1 q2 q4 => by
                rw [up2_i (by omega), uF _ _ (fun z => by unfold tS0 at z; omega), up2_i (by omega), yF _ _ (fun z => by have := z.1; omega), xF _ _ (fun z => by have := z.1; omega), zF _ _ (fun z => by have := z.1; omega), up2_i (by omega), up2_i (by omega)]
              have f47 : up2 I5 (c + 10 + 3 * vE V) 5 (nI 0) 4 7 = I 4 7 := by
                rw [up2_i (by omega), uF _ _ (fun z => by unfold tS0 at z; omega), up2_i (by omega), yF _ _ (fun z => by unfold rP0 at z; omega), xF _ _ (fun z => by unfold rP0 at z; omega), zF _ _ (fun z => by unfold rP0 at z; omega), up2_i (by omega), up2_i (by omega)]
              refine j_aload_n C (D 56 rfl) rfl ?_
              refine j_iconst C (v := nI 0) (D 57 rfl) rfl ?_
              refine j_puti C f_X4_189 (sT0 ht) rfl rfl (D 58 rfl) ?_
              refine j_aload_n C (D 59 rfl) rfl ?_
              refine j_gsgn C (i := 5) (by decide) s_X4_192 (D 60 rfl) ?_
              refine j_cVp C B k_X4_52 (rc_obj C (lit (kd := 4) (n := 8) rfl) rfl rfl) (c_sees _ _ hL hN hS7 (by decide)) rfl rfl rfl rfl ⟨Nat.le_refl _, Nat.le_refl _⟩ (D 61 rfl) ?_
              refine j_if_eq C  156 (D 62 rfl) (by decide) (fun h127 => ?_) (fun h127 => ?_)
              · refine j_aload_n C (D 77 rfl) rfl ?_
                refine j_getr C f_X4_25 (lit (kd := 4) (n := 8) rfl) rfl rfl hr3 (D 78 rfl) ?_
                refine j_dup C (D 79 rfl) rfl ?_
                refine j_geti C f_X4_104 (sC0 hc) rfl rfl (D 80 rfl) ?_
                rw [g7 c 5 (by omega) (by omega) (by omega), hT.1]
                refine j_iconst C (v := nI 1) (D 81 rfl) rfl ?_
                refine j_iadd C (D 82 rfl) ?_
                rw [nI_add]
                refine j_puti C f_X4_104 (sC0 hc) rfl rfl (D 83 rfl) ?_
                refine j_iconst C (v := nI 1) (D 84 rfl) rfl ?_
                exact j_zret C P rfl (by first | exact Or.inl rfl | exact Or.inr rfl | assumption) (D 85 rfl) ⟨Nat.le_refl _, Nat.le_refl _⟩ (PX_o (a := ((addEv V (va_up E2 5 (nI 0)), tt), j3)) (by unfold evR pEv; rw [if_pos hs12, hq2, bnd_r, hq3, bnd_r, hq4, bnd_r, show pSpr T j3 = .inr (0, j3) from by unfold pSpr; rw [if_neg (b2_eq h127)], bnd_r, bnd_r]) ⟨by rw [up2_i (by omega), up2_i (by omega)]; exact u0, CT_ev hE hT (fun b j q1 q2 q3 q4 => by rw [up2_i q3]; exact g7 b j q1 q2 q4) (up2_same _ _ _ _) (TR_mk h50 h51 uC (fun b j q => by rw [up2_i (by omega), up2_i (by omega)]) (by rw [up2_i (by omega), up2_same])), by rw [up2_i (by omega), f47]; exact htt⟩ (Fx.up f7 (Or.inr (by omega))))
              · have hl3 := lt_sg hN hj3 (b2_ne h127) (by decide)
                have f8 : Fx (lP0 c) I (up2 (up2 I5 (c + 10 + 3 * vE V) 5 (nI 0)) 4 4 (nI (j3 + 1))) := f7.tr (adv_F.mo (rP0l c))
                have hS8 := SE_go hS7 (adv_F (v := nI (j3 + 1))) (fun b k z => by have := z.1; omega) (up2_same _ _ _ _) hl3
                refine j_aload_n C (D 63 rfl) rfl ?_
                refine j_callV C B k_X4_77 (rc_obj C (lit (kd := 4) (n := 8) rfl) rfl rfl) (c_advance _ _ hL hN hS7 hl3) rfl rfl rfl rfl ⟨Nat.le_refl _, Nat.le_refl _⟩ (D 64 rfl) ?_
                rintro r w' ⟨rfl, rfl⟩
                refine j_pop C (D 65 rfl) rfl ?_
                refine j_aload_n C (D 66 rfl) rfl ?_
                refine j_iconst C (v := nI 0) (D 67 rfl) rfl ?_
                refine j_sipush C (v := nI 999) (D 68 rfl) rfl ?_
                refine j_callV C B k_X4_100 (rc_obj C (lit (kd := 4) (n := 8) rfl) rfl rfl) (c_takeNumber _ _ hL hN hS8 (lo := 0) (hx := 1000) (hi := nI 999) (by omega) (by omega) (by decide)) rfl rfl rfl rfl ⟨Nat.le_refl _, Nat.le_refl _⟩ (D 69 rfl) ?_
                rintro r w' ⟨rfl, I6, rfl, k8, k9⟩
                refine j_if_ne C  148 (D 70 rfl) (by decide) (fun h143 => ?_) (fun h143 => ?_)
                · obtain ⟨⟨s, j4⟩, hq5⟩ := okB_ne h143
                  obtain ⟨⟨v0, vv⟩, vF⟩ := k9 _ hq5
                  have v0 : I6 4 4 = nI j4 := v0
                  have vv : I6 4 5 = nI s := vv
                  refine j_aload_n C (D 73 rfl) rfl ?_
                  refine j_aload_n C (D 74 rfl) rfl ?_
                  refine j_geti C f_X4_90 (lit (kd := 4) (n := 8) rfl) rfl rfl (D 75 rfl) ?_
                  rw [vv]
                  refine j_puti C f_X4_189 (sT0 ht) rfl rfl (D 76 rfl) ?_
                  refine j_aload_n C (D 77 rfl) rfl ?_
                  refine j_getr C f_X4_25 (lit (kd := 4) (n := 8) rfl) rfl rfl hr3 (D 78 rfl) ?_
                  refine j_dup C (D 79 rfl) rfl ?_
                  refine j_geti C f_X4_104 (sC0 hc) rfl rfl (D 80 rfl) ?_
                  rw [up2_i (by omega), vF _ _ (fun z => by have := z.1; omega), up2_i (by omega), g7 c 5 (by omega) (by omega) (by omega), hT.1]
                  refine j_iconst C (v := nI 1) (D 81 rfl) rfl ?_
                  refine j_iadd C (D 82 rfl) ?_
                  rw [nI_add]
                  refine j_puti C f_X4_104 (sC0 hc) rfl rfl (D 83 rfl) ?_
                  refine j_iconst C (v := nI 1) (D 84 rfl) rfl ?_
                  exact j_zret C P rfl (by first | exact Or.inl rfl | exact Or.inr rfl | assumption) (D 85 rfl) ⟨Nat.le_refl _, Nat.le_refl _⟩ (PX_o (a := ((addEv V (va_up E2 5 (nI s)), tt), j4)) (by unfold evR pEv; rw [if_pos hs12, hq2, bnd_r, hq3, bnd_r, hq4, bnd_r, show pSpr T j3 = .inr (s, j4) from by unfold pSpr; rw [if_pos (b2_ne h127)]; exact hq5, bnd_r, bnd_r]) ⟨by rw [up2_i (by omega), up2_i (by omega)]; exact v0, CT_ev hE hT (fun b j q1 q2 q3 q4 => by rw [up2_i q3, up2_i (by omega), vF _ _ (fun z => by have := z.1; omega), up2_i (by omega)]; exact g7 b j q1 q2 q4) (up2_same _ _ _ _) (TR_mk h50 h51 uC (fun b j q => by rw [up2_i (by omega), up2_i (by omega), vF _ _ (fun z => by have := z.1; omega), up2_i (by omega), up2_i (by omega)]) (by rw [up2_i (by omega), up2_same])), by rw [up2_i (by omega), up2_i (by omega), vF _ _ (fun z => by unfold rP0 at z; omega), up2_i (by omega), f47]; exact htt⟩ (Fx.up (Fx.up (f8.tr (vF.mo (rP0l c))) (Or.inr (by omega))) (Or.inr (by omega))))
                · obtain ⟨e5, hq5⟩ := okB_eq h143
                  obtain ⟨v0, v1, v2⟩ := k8 e5 hq5
                  refine j_iconst C (v := nI 0) (D 71 rfl) rfl ?_
                  exact j_zret C P rfl (by first | exact Or.inl rfl | exact Or.inr rfl | assumption) (D 72 rfl) ⟨Nat.le_refl _, Nat.le_refl _⟩ (PX_e (e := e5) (by unfold evR pEv; rw [if_pos hs12, hq2, bnd_r, hq3, bnd_r, hq4, bnd_r, show pSpr T j3 = .inl e5 from by unfold pSpr; rw [if_pos (b2_ne h127)]; exact hq5, bnd_l, bnd_l]) v0 v1 ((f8.mo (lP01 c)).tr (v2.mo (rP1l c))))
            · obtain ⟨e4, hq4⟩ := okB_eq h110
              obtain ⟨u0, u1, u2⟩ := k6 e4 hq4
              refine j_iconst C (v := nI 0) (D 54 rfl) rfl ?_
              exact j_zret C P rfl (by first | exact Or.inl rfl | exact Or.inr rfl | assumption) (D 55 rfl) ⟨Nat.le_refl _, Nat.le_refl _⟩ (PX_e (e := e4) (by unfold evR pEv; rw [if_pos hs12, hq2, bnd_r, hq3, bnd_r, hq4, bnd_l, bnd_l]) u0 u1 ((f5.mo (lP01 c)).tr (u2.mo (tS1l hE))))
        · obtain ⟨e3, hq3⟩ := okB_eq h72
          obtain ⟨y0, y1, y2⟩ := k4 e3 hq3
          refine j_iconst C (v := nI 0) (D 34 rfl) rfl ?_
          exact j_zret C P rfl (by first | exact Or.inl rfl | exact Or.inr rfl | assumption) (D 35 rfl) ⟨Nat.le_refl _, Nat.le_refl _⟩ (PX_e (e := e3) (by unfold evR pEv; rw [if_pos hs12, hq2, bnd_r, hq3, bnd_l, bnd_l]) y0 y1 ((f3.mo (lP01 c)).tr (y2.mo (rP1l c))))
  · refine j_gsgn C (i := 2) (by decide) s_X4_161 (D 20 rfl) ?_
    refine j_goto C 49 (D 21 rfl) (by decide) ?_
    refine j_callV C B k_X4_63 (rc_obj C (lit (kd := 4) (n := 8) rfl) rfl rfl) (c_take _ _ hL hN hSa (s := 2) (by decide)) rfl rfl rfl rfl ⟨Nat.le_refl _, Nat.le_refl _⟩ (D 23 rfl) ?_
    rintro r w' ⟨rfl, I2, rfl, k0, k1⟩
    refine j_if_eq C  75 (D 24 rfl) (by decide) (fun h52 => ?_) (fun h52 => ?_)
    · obtain ⟨e, hq1⟩ := okB_eq h52
      obtain ⟨z0, z1, z2⟩ := k0 e hq1
      refine j_iconst C (v := nI 0) (D 34 rfl) rfl ?_
      exact j_zret C P rfl (by first | exact Or.inl rfl | exact Or.inr rfl | assumption) (D 35 rfl) ⟨Nat.le_refl _, Nat.le_refl _⟩ (PX_e (e := e) (by exfalso; unfold pTake at hq1; rw [if_pos (b2_ne h37)] at hq1; cases hq1) z0 z1 ((f1.mo (lP01 c)).tr (z2.mo (rP1l c))))
    · obtain ⟨j, hq1⟩ := okB_ne h52
      obtain ⟨z0, zF⟩ := k1 j hq1
      have hs12 : (T (i + 1)).1 = 2 ∨ (T (i + 1)).1 = 1 := Or.inl (pTake_in hq1).1
      have z0 : I2 4 4 = nI j := z0
      obtain ⟨b1, b2⟩ := pTake_go hN hlt (by omega) hq1
      subst b2
      have f2 := f1.tr (zF.mo (rP0l c))
      have hS2 := SE_go hP.1 f2 (fun b k z => by unfold lP0 at z; omega) z0 b1
      refine j_aload_n C (D 25 rfl) rfl ?_
      refine j_gsgn C (i := 3) (by decide) s_X4_172 (D 26 rfl) ?_
      refine j_callV C B k_X4_63 (rc_obj C (lit (kd := 4) (n := 8) rfl) rfl rfl) (c_take _ _ hL hN hS2 (by decide)) rfl rfl rfl rfl ⟨Nat.le_refl _, Nat.le_refl _⟩ (D 27 rfl) ?_
      rintro r w' ⟨rfl, I3, rfl, k2, k3⟩
      refine j_if_eq C  75 (D 28 rfl) (by decide) (fun h62 => ?_) (fun h62 => ?_)
      · obtain ⟨e2, hq2⟩ := okB_eq h62
        obtain ⟨x0, x1, x2⟩ := k2 e2 hq2
        refine j_iconst C (v := nI 0) (D 34 rfl) rfl ?_
        exact j_zret C P rfl (by first | exact Or.inl rfl | exact Or.inr rfl | assumption) (D 35 rfl) ⟨Nat.le_refl _, Nat.le_refl _⟩ (PX_e (e := e2) (by unfold evR pEv; rw [if_pos hs12, hq2, bnd_l, bnd_l]) x0 x1 ((f2.mo (lP01 c)).tr (x2.mo (rP1l c))))
      · obtain ⟨j, hq2⟩ := okB_ne h62
        obtain ⟨x0, xF⟩ := k3 j hq2
        have x0 : I3 4 4 = nI j := x0
        obtain ⟨d1, d2⟩ := pTake_go hN b1 (by omega) hq2
        have f3 := f2.tr (xF.mo (rP0l c))
        have hS3 := SE_go hP.1 f3 (fun b k z => by unfold lP0 at z; omega) x0 (by omega)
        refine j_aload_n C (D 29 rfl) rfl ?_
        refine j_iconst C (v := nI 0) (D 30 rfl) rfl ?_
        refine j_ldc C (v := 99999) (D 31 rfl) n_X4_175 ?_
        refine j_callV C B k_X4_100 (rc_obj C (lit (kd := 4) (n := 8) rfl) rfl rfl) (c_takeNumber _ _ hL hN hS3 (lo := 0) (hx := 100000) (hi := 99999) (by omega) (by omega) (by decide)) rfl rfl rfl rfl ⟨Nat.le_refl _, Nat.le_refl _⟩ (D 32 rfl) ?_
        rintro r w' ⟨rfl, I4, rfl, k4, k5⟩
        refine j_if_ne C  77 (D 33 rfl) (by decide) (fun h72 => ?_) (fun h72 => ?_)
        · obtain ⟨⟨bb, j2⟩, hq3⟩ := okB_ne h72
          obtain ⟨⟨y0, yv⟩, yF⟩ := k5 _ hq3
          have y0 : I4 4 4 = nI j2 := y0
          have yv : I4 4 5 = nI bb := yv
          obtain ⟨g1, g2, g3, g4⟩ := pNum_go hN (by omega) hq3
          have f5 : Fx (lP0 c) I (up2 I4 (c + 10 + 3 * vE V) 1 (nI bb)) := Fx.up (f3.tr (yF.mo (rP0l c))) (Or.inr (by omega))
          have hS4 : SE (up2 I4 (c + 10 + 3 * vE V) 1 (nI bb)) R T N j2 := SE_go hP.1 f5 (fun b k z => by unfold lP0 at z; omega) (by rw [up2_i (by omega)]; exact y0) (by omega)
          refine j_aload_n C (D 36 rfl) rfl ?_
          refine j_aload_n C (D 37 rfl) rfl ?_
          refine j_geti C f_X4_90 (lit (kd := 4) (n := 8) rfl) rfl rfl (D 38 rfl) ?_
          rw [yv]
          refine j_puti C f_X4_176 (sT0 ht) rfl rfl (D 39 rfl) ?_
          refine j_aload_n C (D 40 rfl) rfl ?_
          refine j_gsgn C (i := 9) (by decide) s_X4_179 (D 41 rfl) ?_
          refine j_cVp C B k_X4_52 (rc_obj C (lit (kd := 4) (n := 8) rfl) rfl rfl) (c_sees _ _ hL hN hS4 (by decide)) rfl rfl rfl rfl ⟨Nat.le_refl _, Nat.le_refl _⟩ (D 42 rfl) ?_
          refine j_if_eq C  103 (D 43 rfl) (by decide) (fun h92 => ?_) (fun h92 => ?_)
          · refine j_aload_n C (D 48 rfl) rfl ?_
            refine j_aload_n C (D 49 rfl) rfl ?_
            refine j_callV C B k_X4_186 (rc_obj C (lit (kd := 4) (n := 8) rfl) rfl rfl) (c_readFormula _ _ hL ht hN hS4 (E := fbE (T (i + 1)).1 bb) (b2_eq h92)) rfl rfl rfl rfl ⟨Nat.le_refl _, Nat.le_refl _⟩ (D 50 rfl) ?_
            rintro r w' ⟨rfl, I5, rfl, k6, k7⟩
            refine j_istore_n C (D 51 rfl) rfl ?_
            refine j_iload_n C (D 52 rfl) rfl ?_
            refine j_if_ne C  115 (D 53 rfl) (by decide) (fun h110 => ?_) (fun h110 => ?_)
            · obtain ⟨⟨E2, j3⟩, hq4⟩ := okB_ne h110
              obtain ⟨⟨u0, uC⟩, uF⟩ := k7 _ hq4
              have u0 : I5 4 4 = nI j3 := u0
              have uC : TRc I5 (c + 10 + 3 * vE V) E2 := uC
              obtain ⟨m0, m1⟩ := pCur_01 hN (by omega) hq4
              have hj3 : j3 ≤ N := (pCur_go hN (by omega) (by unfold fbE; rw [vu_ne _ _ (by omega), vu_same]; by_cases z : (T (i + 1)).1 = 2 <;> simp [z] <;> decide) (by unfold fbE; rw [vu_same, nI_int (by omega)]; omega) hq4).2.1
              have h50 : I5 (c + 10 + 3 * vE V) 0 = E2 0 := by
                rw [uF _ _ (fun z => by unfold tS0 at z; omega), up2_i (by omega), yF _ _ (fun z => by have := z.1; omega), xF _ _ (fun z => by have := z.1; omega), zF _ _ (fun z => by have := z.1; omega), up2_same, m0]
                unfold fbE b2
                rw [vu_ne _ _ (by omega), vu_same]
                by_cases z : (T (i + 1)).1 = 2
                · rw [if_pos z, if_pos z]; rfl
                · rw [if_neg z, if_neg z]; rfl
              have h51 : I5 (c + 10 + 3 * vE V) 1 = E2 1 := by
                rw [uF _ _ (fun z => by unfold tS0 at z; omega), up2_same, m1]
                unfold fbE
                rw [vu_same]
              have f6 := f5.tr (uF.mo (tS0l hE))
              have f7 : Fx (lP0 c) I (up2 I5 (c + 10 + 3 * vE V) 5 (nI 0)) := Fx.up f6 (Or.inr (by omega))
              have hS7 : SE (up2 I5 (c + 10 + 3 * vE V) 5 (nI 0)) R T N j3 := SE_go hP.1 f7 (fun b k z => by unfold lP0 at z; omega) (by rw [up2_i (by omega)]; exact u0) hj3
              have g7 : ∀ b j, c ≤ b → b < c + 40 → ¬ (c + 10 + 3 * vE V ≤ b ∧ b ≤ c + 10 + 3 * vE V + 2) → up2 I5 (c + 10 + 3 * vE V) 5 (nI 0) b j = I b j := fun b j q1 q2 q4 => by
                rw [up2_i (by omega), uF _ _ (fun z => by unfold tS0 at z; omega), up2_i (by omega), yF _ _ (fun z => by have := z.1; omega), xF _ _ (fun z => by have := z.1; omega), zF _ _ (fun z => by have := z.1; omega), up2_i (by omega), up2_i (by omega)]
              have f47 : up2 I5 (c + 10 + 3 * vE V) 5 (nI 0) 4 7 = I 4 7 := by
                rw [up2_i (by omega), uF _ _ (fun z => by unfold tS0 at z; omega), up2_i (by omega), yF _ _ (fun z => by unfold rP0 at z; omega), xF _ _ (fun z => by unfold rP0 at z; omega), zF _ _ (fun z => by unfold rP0 at z; omega), up2_i (by omega), up2_i (by omega)]
              refine j_aload_n C (D 56 rfl) rfl ?_
              refine j_iconst C (v := nI 0) (D 57 rfl) rfl ?_
              refine j_puti C f_X4_189 (sT0 ht) rfl rfl (D 58 rfl) ?_
              refine j_aload_n C (D 59 rfl) rfl ?_
              refine j_gsgn C (i := 5) (by decide) s_X4_192 (D 60 rfl) ?_
              refine j_cVp C B k_X4_52 (rc_obj C (lit (kd := 4) (n := 8) rfl) rfl rfl) (c_sees _ _ hL hN hS7 (by decide)) rfl rfl rfl rfl ⟨Nat.le_refl _, Nat.le_refl _⟩ (D 61 rfl) ?_
              refine j_if_eq C  156 (D 62 rfl) (by decide) (fun h127 => ?_) (fun h127 => ?_)
              · refine j_aload_n C (D 77 rfl) rfl ?_
                refine j_getr C f_X4_25 (lit (kd := 4) (n := 8) rfl) rfl rfl hr3 (D 78 rfl) ?_
                refine j_dup C (D 79 rfl) rfl ?_
                refine j_geti C f_X4_104 (sC0 hc) rfl rfl (D 80 rfl) ?_
                rw [g7 c 5 (by omega) (by omega) (by omega), hT.1]
                refine j_iconst C (v := nI 1) (D 81 rfl) rfl ?_
                refine j_iadd C (D 82 rfl) ?_
                rw [nI_add]
                refine j_puti C f_X4_104 (sC0 hc) rfl rfl (D 83 rfl) ?_
                refine j_iconst C (v := nI 1) (D 84 rfl) rfl ?_
                exact j_zret C P rfl (by first | exact Or.inl rfl | exact Or.inr rfl | assumption) (D 85 rfl) ⟨Nat.le_refl _, Nat.le_refl _⟩ (PX_o (a := ((addEv V (va_up E2 5 (nI 0)), tt), j3)) (by unfold evR pEv; rw [if_pos hs12, hq2, bnd_r, hq3, bnd_r, hq4, bnd_r, show pSpr T j3 = .inr (0, j3) from by unfold pSpr; rw [if_neg (b2_eq h127)], bnd_r, bnd_r]) ⟨by rw [up2_i (by omega), up2_i (by omega)]; exact u0, CT_ev hE hT (fun b j q1 q2 q3 q4 => by rw [up2_i q3]; exact g7 b j q1 q2 q4) (up2_same _ _ _ _) (TR_mk h50 h51 uC (fun b j q => by rw [up2_i (by omega), up2_i (by omega)]) (by rw [up2_i (by omega), up2_same])), by rw [up2_i (by omega), f47]; exact htt⟩ (Fx.up f7 (Or.inr (by omega))))
              · have hl3 := lt_sg hN hj3 (b2_ne h127) (by decide)
                have f8 : Fx (lP0 c) I (up2 (up2 I5 (c + 10 + 3 * vE V) 5 (nI 0)) 4 4 (nI (j3 + 1))) := f7.tr (adv_F.mo (rP0l c))
                have hS8 := SE_go hS7 (adv_F (v := nI (j3 + 1))) (fun b k z => by have := z.1; omega) (up2_same _ _ _ _) hl3
                refine j_aload_n C (D 63 rfl) rfl ?_
                refine j_callV C B k_X4_77 (rc_obj C (lit (kd := 4) (n := 8) rfl) rfl rfl) (c_advance _ _ hL hN hS7 hl3) rfl rfl rfl rfl ⟨Nat.le_refl _, Nat.le_refl _⟩ (D 64 rfl) ?_
                rintro r w' ⟨rfl, rfl⟩
                refine j_pop C (D 65 rfl) rfl ?_
                refine j_aload_n C (D 66 rfl) rfl ?_
                refine j_iconst C (v := nI 0) (D 67 rfl) rfl ?_
                refine j_sipush C (v := nI 999) (D 68 rfl) rfl ?_
                refine j_callV C B k_X4_100 (rc_obj C (lit (kd := 4) (n := 8) rfl) rfl rfl) (c_takeNumber _ _ hL hN hS8 (lo := 0) (hx := 1000) (hi := nI 999) (by omega) (by omega) (by decide)) rfl rfl rfl rfl ⟨Nat.le_refl _, Nat.le_refl _⟩ (D 69 rfl) ?_
                rintro r w' ⟨rfl, I6, rfl, k8, k9⟩
                refine j_if_ne C  148 (D 70 rfl) (by decide) (fun h143 => ?_) (fun h143 => ?_)
                · obtain ⟨⟨s, j4⟩, hq5⟩ := okB_ne h143
                  obtain ⟨⟨v0, vv⟩, vF⟩ := k9 _ hq5
                  have v0 : I6 4 4 = nI j4 := v0
                  have vv : I6 4 5 = nI s := vv
                  refine j_aload_n C (D 73 rfl) rfl ?_
                  refine j_aload_n C (D 74 rfl) rfl ?_
                  refine j_geti C f_X4_90 (lit (kd := 4) (n := 8) rfl) rfl rfl (D 75 rfl) ?_
                  rw [vv]
                  refine j_puti C f_X4_189 (sT0 ht) rfl rfl (D 76 rfl) ?_
                  refine j_aload_n C (D 77 rfl) rfl ?_
                  refine j_getr C f_X4_25 (lit (kd := 4) (n := 8) rfl) rfl rfl hr3 (D 78 rfl) ?_
                  refine j_dup C (D 79 rfl) rfl ?_
                  refine j_geti C f_X4_104 (sC0 hc) rfl rfl (D 80 rfl) ?_
                  rw [up2_i (by omega), vF _ _ (fun z => by have := z.1; omega), up2_i (by omega), g7 c 5 (by omega) (by omega) (by omega), hT.1]
                  refine j_iconst C (v := nI 1) (D 81 rfl) rfl ?_
                  refine j_iadd C (D 82 rfl) ?_
                  rw [nI_add]
                  refine j_puti C f_X4_104 (sC0 hc) rfl rfl (D 83 rfl) ?_
                  refine j_iconst C (v := nI 1) (D 84 rfl) rfl ?_
                  exact j_zret C P rfl (by first | exact Or.inl rfl | exact Or.inr rfl | assumption) (D 85 rfl) ⟨Nat.le_refl _, Nat.le_refl _⟩ (PX_o (a := ((addEv V (va_up E2 5 (nI s)), tt), j4)) (by unfold evR pEv; rw [if_pos hs12, hq2, bnd_r, hq3, bnd_r, hq4, bnd_r, show pSpr T j3 = .inr (s, j4) from by unfold pSpr; rw [if_pos (b2_ne h127)]; exact hq5, bnd_r, bnd_r]) ⟨by rw [up2_i (by omega), up2_i (by omega)]; exact v0, CT_ev hE hT (fun b j q1 q2 q3 q4 => by rw [up2_i q3, up2_i (by omega), vF _ _ (fun z => by have := z.1; omega), up2_i (by omega)]; exact g7 b j q1 q2 q4) (up2_same _ _ _ _) (TR_mk h50 h51 uC (fun b j q => by rw [up2_i (by omega), up2_i (by omega), vF _ _ (fun z => by have := z.1; omega), up2_i (by omega), up2_i (by omega)]) (by rw [up2_i (by omega), up2_same])), by rw [up2_i (by omega), up2_i (by omega), vF _ _ (fun z => by unfold rP0 at z; omega), up2_i (by omega), f47]; exact htt⟩ (Fx.up (Fx.up (f8.tr (vF.mo (rP0l c))) (Or.inr (by omega))) (Or.inr (by omega))))
                · obtain ⟨e5, hq5⟩ := okB_eq h143
                  obtain ⟨v0, v1, v2⟩ := k8 e5 hq5
                  refine j_iconst C (v := nI 0) (D 71 rfl) rfl ?_
                  exact j_zret C P rfl (by first | exact Or.inl rfl | exact Or.inr rfl | assumption) (D 72 rfl) ⟨Nat.le_refl _, Nat.le_refl _⟩ (PX_e (e := e5) (by unfold evR pEv; rw [if_pos hs12, hq2, bnd_r, hq3, bnd_r, hq4, bnd_r, show pSpr T j3 = .inl e5 from by unfold pSpr; rw [if_pos (b2_ne h127)]; exact hq5, bnd_l, bnd_l]) v0 v1 ((f8.mo (lP01 c)).tr (v2.mo (rP1l c))))
            · obtain ⟨e4, hq4⟩ := okB_eq h110
              obtain ⟨u0, u1, u2⟩ := k6 e4 hq4
              refine j_iconst C (v := nI 0) (D 54 rfl) rfl ?_
              exact j_zret C P rfl (by first | exact Or.inl rfl | exact Or.inr rfl | assumption) (D 55 rfl) ⟨Nat.le_refl _, Nat.le_refl _⟩ (PX_e (e := e4) (by unfold evR pEv; rw [if_pos hs12, hq2, bnd_r, hq3, bnd_r, hq4, bnd_l, bnd_l]) u0 u1 ((f5.mo (lP01 c)).tr (u2.mo (tS1l hE))))
          · refine j_aload_n C (D 44 rfl) rfl ?_
            refine j_aload_n C (D 45 rfl) rfl ?_
            refine j_callV C B k_X4_182 (rc_obj C (lit (kd := 4) (n := 8) rfl) rfl rfl) (c_readTable _ _ hL ht hN hS4 (E := fbE (T (i + 1)).1 bb) (b2_ne h92) (lt_sg hN hS4.2.2 (b2_ne h92) (by decide))) rfl rfl rfl rfl ⟨Nat.le_refl _, Nat.le_refl _⟩ (D 46 rfl) ?_
            rintro r w' ⟨rfl, I5, rfl, k6, k7⟩
            refine j_goto C 108 (D 47 rfl) (by decide) ?_
            refine j_istore_n C (D 51 rfl) rfl ?_
            refine j_iload_n C (D 52 rfl) rfl ?_
            refine j_if_ne C  115 (D 53 rfl) (by decide) (fun h110 => ?_) (fun h110 => ?_)
            · obtain ⟨⟨E2, j3⟩, hq4⟩ := okB_ne h110
              obtain ⟨⟨u0, uC⟩, uF⟩ := k7 _ hq4
              have u0 : I5 4 4 = nI j3 := u0
              have uC : TRc I5 (c + 10 + 3 * vE V) E2 := uC
              obtain ⟨m0, m1⟩ := pCur_01 hN (by omega) hq4
              have hj3 : j3 ≤ N := (pCur_go hN (by omega) (by unfold fbE; rw [vu_ne _ _ (by omega), vu_same]; by_cases z : (T (i + 1)).1 = 2 <;> simp [z] <;> decide) (by unfold fbE; rw [vu_same, nI_int (by omega)]; omega) hq4).2.1
              have h50 : I5 (c + 10 + 3 * vE V) 0 = E2 0 := by
                rw [uF _ _ (fun z => by unfold tS0 at z; omega), up2_i (by omega), yF _ _ (fun z => by have := z.1; omega), xF _ _ (fun z => by have := z.1; omega), zF _ _ (fun z => by have := z.1; omega), up2_same, m0]
                unfold fbE b2
                rw [vu_ne _ _ (by omega), vu_same]
                by_cases z : (T (i + 1)).1 = 2
                · rw [if_pos z, if_pos z]; rfl
                · rw [if_neg z, if_neg z]; rfl
              have h51 : I5 (c + 10 + 3 * vE V) 1 = E2 1 := by
                rw [uF _ _ (fun z => by unfold tS0 at z; omega), up2_same, m1]
                unfold fbE
                rw [vu_same]
              have f6 := f5.tr (uF.mo (tS0l hE))
              have f7 : Fx (lP0 c) I (up2 I5 (c + 10 + 3 * vE V) 5 (nI 0)) := Fx.up f6 (Or.inr (by omega))
              have hS7 : SE (up2 I5 (c + 10 + 3 * vE V) 5 (nI 0)) R T N j3 := SE_go hP.1 f7 (fun b k z => by unfold lP0 at z; omega) (by rw [up2_i (by omega)]; exact u0) hj3
              have g7 : ∀ b j, c ≤ b → b < c + 40 → ¬ (c + 10 + 3 * vE V ≤ b ∧ b ≤ c + 10 + 3 * vE V + 2) → up2 I5 (c + 10 + 3 * vE V) 5 (nI 0) b j = I b j := fun b j q1 q2 q4 => by
                rw [up2_i (by omega), uF _ _ (fun z => by unfold tS0 at z; omega), up2_i (by omega), yF _ _ (fun z => by have := z.1; omega), xF _ _ (fun z => by have := z.1; omega), zF _ _ (fun z => by have := z.1; omega), up2_i (by omega), up2_i (by omega)]
              have f47 : up2 I5 (c + 10 + 3 * vE V) 5 (nI 0) 4 7 = I 4 7 := by
                rw [up2_i (by omega), uF _ _ (fun z => by unfold tS0 at z; omega), up2_i (by omega), yF _ _ (fun z => by unfold rP0 at z; omega), xF _ _ (fun z => by unfold rP0 at z; omega), zF _ _ (fun z => by unfold rP0 at z; omega), up2_i (by omega), up2_i (by omega)]
              refine j_aload_n C (D 56 rfl) rfl ?_
              refine j_iconst C (v := nI 0) (D 57 rfl) rfl ?_
              refine j_puti C f_X4_189 (sT0 ht) rfl rfl (D 58 rfl) ?_
              refine j_aload_n C (D 59 rfl) rfl ?_
              refine j_gsgn C (i := 5) (by decide) s_X4_192 (D 60 rfl) ?_
              refine j_cVp C B k_X4_52 (rc_obj C (lit (kd := 4) (n := 8) rfl) rfl rfl) (c_sees _ _ hL hN hS7 (by decide)) rfl rfl rfl rfl ⟨Nat.le_refl _, Nat.le_refl _⟩ (D 61 rfl) ?_
              refine j_if_eq C  156 (D 62 rfl) (by decide) (fun h127 => ?_) (fun h127 => ?_)
              · refine j_aload_n C (D 77 rfl) rfl ?_
                refine j_getr C f_X4_25 (lit (kd := 4) (n := 8) rfl) rfl rfl hr3 (D 78 rfl) ?_
                refine j_dup C (D 79 rfl) rfl ?_
                refine j_geti C f_X4_104 (sC0 hc) rfl rfl (D 80 rfl) ?_
                rw [g7 c 5 (by omega) (by omega) (by omega), hT.1]
                refine j_iconst C (v := nI 1) (D 81 rfl) rfl ?_
                refine j_iadd C (D 82 rfl) ?_
                rw [nI_add]
                refine j_puti C f_X4_104 (sC0 hc) rfl rfl (D 83 rfl) ?_
                refine j_iconst C (v := nI 1) (D 84 rfl) rfl ?_
                exact j_zret C P rfl (by first | exact Or.inl rfl | exact Or.inr rfl | assumption) (D 85 rfl) ⟨Nat.le_refl _, Nat.le_refl _⟩ (PX_o (a := ((addEv V (va_up E2 5 (nI 0)), tt), j3)) (by unfold evR pEv; rw [if_pos hs12, hq2, bnd_r, hq3, bnd_r, hq4, bnd_r, show pSpr T j3 = .inr (0, j3) from by unfold pSpr; rw [if_neg (b2_eq h127)], bnd_r, bnd_r]) ⟨by rw [up2_i (by omega), up2_i (by omega)]; exact u0, CT_ev hE hT (fun b j q1 q2 q3 q4 => by rw [up2_i q3]; exact g7 b j q1 q2 q4) (up2_same _ _ _ _) (TR_mk h50 h51 uC (fun b j q => by rw [up2_i (by omega), up2_i (by omega)]) (by rw [up2_i (by omega), up2_same])), by rw [up2_i (by omega), f47]; exact htt⟩ (Fx.up f7 (Or.inr (by omega))))
              · have hl3 := lt_sg hN hj3 (b2_ne h127) (by decide)
                have f8 : Fx (lP0 c) I (up2 (up2 I5 (c + 10 + 3 * vE V) 5 (nI 0)) 4 4 (nI (j3 + 1))) := f7.tr (adv_F.mo (rP0l c))
                have hS8 := SE_go hS7 (adv_F (v := nI (j3 + 1))) (fun b k z => by have := z.1; omega) (up2_same _ _ _ _) hl3
                refine j_aload_n C (D 63 rfl) rfl ?_
                refine j_callV C B k_X4_77 (rc_obj C (lit (kd := 4) (n := 8) rfl) rfl rfl) (c_advance _ _ hL hN hS7 hl3) rfl rfl rfl rfl ⟨Nat.le_refl _, Nat.le_refl _⟩ (D 64 rfl) ?_
                rintro r w' ⟨rfl, rfl⟩
                refine j_pop C (D 65 rfl) rfl ?_
                refine j_aload_n C (D 66 rfl) rfl ?_
                refine j_iconst C (v := nI 0) (D 67 rfl) rfl ?_
                refine j_sipush C (v := nI 999) (D 68 rfl) rfl ?_
                refine j_callV C B k_X4_100 (rc_obj C (lit (kd := 4) (n := 8) rfl) rfl rfl) (c_takeNumber _ _ hL hN hS8 (lo := 0) (hx := 1000) (hi := nI 999) (by omega) (by omega) (by decide)) rfl rfl rfl rfl ⟨Nat.le_refl _, Nat.le_refl _⟩ (D 69 rfl) ?_
                rintro r w' ⟨rfl, I6, rfl, k8, k9⟩
                refine j_if_ne C  148 (D 70 rfl) (by decide) (fun h143 => ?_) (fun h143 => ?_)
                · obtain ⟨⟨s, j4⟩, hq5⟩ := okB_ne h143
                  obtain ⟨⟨v0, vv⟩, vF⟩ := k9 _ hq5
                  have v0 : I6 4 4 = nI j4 := v0
                  have vv : I6 4 5 = nI s := vv
                  refine j_aload_n C (D 73 rfl) rfl ?_
                  refine j_aload_n C (D 74 rfl) rfl ?_
                  refine j_geti C f_X4_90 (lit (kd := 4) (n := 8) rfl) rfl rfl (D 75 rfl) ?_
                  rw [vv]
                  refine j_puti C f_X4_189 (sT0 ht) rfl rfl (D 76 rfl) ?_
                  refine j_aload_n C (D 77 rfl) rfl ?_
                  refine j_getr C f_X4_25 (lit (kd := 4) (n := 8) rfl) rfl rfl hr3 (D 78 rfl) ?_
                  refine j_dup C (D 79 rfl) rfl ?_
                  refine j_geti C f_X4_104 (sC0 hc) rfl rfl (D 80 rfl) ?_
                  rw [up2_i (by omega), vF _ _ (fun z => by have := z.1; omega), up2_i (by omega), g7 c 5 (by omega) (by omega) (by omega), hT.1]
                  refine j_iconst C (v := nI 1) (D 81 rfl) rfl ?_
                  refine j_iadd C (D 82 rfl) ?_
                  rw [nI_add]
                  refine j_puti C f_X4_104 (sC0 hc) rfl rfl (D 83 rfl) ?_
                  refine j_iconst C (v := nI 1) (D 84 rfl) rfl ?_
                  exact j_zret C P rfl (by first | exact Or.inl rfl | exact Or.inr rfl | assumption) (D 85 rfl) ⟨Nat.le_refl _, Nat.le_refl _⟩ (PX_o (a := ((addEv V (va_up E2 5 (nI s)), tt), j4)) (by unfold evR pEv; rw [if_pos hs12, hq2, bnd_r, hq3, bnd_r, hq4, bnd_r, show pSpr T j3 = .inr (s, j4) from by unfold pSpr; rw [if_pos (b2_ne h127)]; exact hq5, bnd_r, bnd_r]) ⟨by rw [up2_i (by omega), up2_i (by omega)]; exact v0, CT_ev hE hT (fun b j q1 q2 q3 q4 => by rw [up2_i q3, up2_i (by omega), vF _ _ (fun z => by have := z.1; omega), up2_i (by omega)]; exact g7 b j q1 q2 q4) (up2_same _ _ _ _) (TR_mk h50 h51 uC (fun b j q => by rw [up2_i (by omega), up2_i (by omega), vF _ _ (fun z => by have := z.1; omega), up2_i (by omega), up2_i (by omega)]) (by rw [up2_i (by omega), up2_same])), by rw [up2_i (by omega), up2_i (by omega), vF _ _ (fun z => by unfold rP0 at z; omega), up2_i (by omega), f47]; exact htt⟩ (Fx.up (Fx.up (f8.tr (vF.mo (rP0l c))) (Or.inr (by omega))) (Or.inr (by omega))))
                · obtain ⟨e5, hq5⟩ := okB_eq h143
                  obtain ⟨v0, v1, v2⟩ := k8 e5 hq5
                  refine j_iconst C (v := nI 0) (D 71 rfl) rfl ?_
                  exact j_zret C P rfl (by first | exact Or.inl rfl | exact Or.inr rfl | assumption) (D 72 rfl) ⟨Nat.le_refl _, Nat.le_refl _⟩ (PX_e (e := e5) (by unfold evR pEv; rw [if_pos hs12, hq2, bnd_r, hq3, bnd_r, hq4, bnd_r, show pSpr T j3 = .inl e5 from by unfold pSpr; rw [if_pos (b2_ne h127)]; exact hq5, bnd_l, bnd_l]) v0 v1 ((f8.mo (lP01 c)).tr (v2.mo (rP1l c))))
            · obtain ⟨e4, hq4⟩ := okB_eq h110
              obtain ⟨u0, u1, u2⟩ := k6 e4 hq4
              refine j_iconst C (v := nI 0) (D 54 rfl) rfl ?_
              exact j_zret C P rfl (by first | exact Or.inl rfl | exact Or.inr rfl | assumption) (D 55 rfl) ⟨Nat.le_refl _, Nat.le_refl _⟩ (PX_e (e := e4) (by unfold evR pEv; rw [if_pos hs12, hq2, bnd_r, hq3, bnd_r, hq4, bnd_l, bnd_l]) u0 u1 ((f5.mo (lP01 c)).tr (u2.mo (tS1l hE))))
        · obtain ⟨e3, hq3⟩ := okB_eq h72
          obtain ⟨y0, y1, y2⟩ := k4 e3 hq3
          refine j_iconst C (v := nI 0) (D 34 rfl) rfl ?_
          exact j_zret C P rfl (by first | exact Or.inl rfl | exact Or.inr rfl | assumption) (D 35 rfl) ⟨Nat.le_refl _, Nat.le_refl _⟩ (PX_e (e := e3) (by unfold evR pEv; rw [if_pos hs12, hq2, bnd_r, hq3, bnd_l, bnd_l]) y0 y1 ((f3.mo (lP01 c)).tr (y2.mo (rP1l c))))

/-! EVENTS as the class reads them -/
def tQ0 (t b j : Nat) : Prop := (b = 4 ∧ (j = 4 ∨ j = 5 ∨ j = 6)) ∨ (b = t ∧ j = 6) ∨ b = t + 1 ∨ b = t + 2
def tQ1 (t b j : Nat) : Prop := (b = 4 ∧ (j = 0 ∨ j = 1 ∨ j = 4 ∨ j = 5 ∨ j = 6)) ∨ (b = t ∧ j = 6) ∨ b = t + 1 ∨ b = t + 2
def tS0 (t b j : Nat) : Prop := (b = 4 ∧ (j = 4 ∨ j = 5 ∨ j = 6)) ∨ (b = t ∧ (j = 2 ∨ j = 3 ∨ j = 4 ∨ j = 6)) ∨ b = t + 1 ∨ b = t + 2
def tS1 (t b j : Nat) : Prop := (b = 4 ∧ (j = 0 ∨ j = 1 ∨ j = 4 ∨ j = 5 ∨ j = 6)) ∨ (b = t ∧ (j = 2 ∨ j = 3 ∨ j = 4 ∨ j = 6)) ∨ b = t + 1 ∨ b = t + 2
theorem tQ01 (t b j : Nat) (h : tQ0 t b j) : tQ1 t b j := by unfold tQ0 at h; unfold tQ1; omega
theorem tS01 (t b j : Nat) (h : tS0 t b j) : tS1 t b j := by unfold tS0 at h; unfold tS1; omega
theorem tQS0 (t b j : Nat) (h : tQ0 t b j) : tS0 t b j := by unfold tQ0 at h; unfold tS0; omega
theorem tQS1 (t b j : Nat) (h : tQ1 t b j) : tS1 t b j := by unfold tQ1 at h; unfold tS1; omega
theorem rPQ0 (t b j : Nat) (h : rP0 b j) : tQ0 t b j := Or.inl h
theorem rPQ1 (t b j : Nat) (h : rP1 b j) : tQ1 t b j := Or.inl h
theorem rPQ01 (t b j : Nat) (h : rP0 b j) : tQ1 t b j := tQ01 t b j (Or.inl h)
theorem rPS0 (t b j : Nat) (h : rP0 b j) : tS0 t b j := Or.inl h
theorem rPS1 (t b j : Nat) (h : rP1 b j) : tS1 t b j := Or.inl h
theorem t_ge {t : Nat} (h : isT t) : 20 ≤ t := by obtain ⟨c, e, hc, he, rfl⟩ := h; rcases hc with rfl | rfl <;> omega
def TBx (I : Nat → Nat → Int32) (t n : Nat) (E : Nat → Int32) : Prop := I t 6 = nI n ∧ ∀ k, k < n → I (t + 1) k = E (6 + 2 * k) ∧ I (t + 2) k = E (6 + 2 * k + 1)
theorem TBx_r {I I' : Nat → Nat → Int32} {t n : Nat} {E : Nat → Int32} (ht : 20 ≤ t) (h : TBx I t n E) (hF : Fx rP0 I I') : TBx I' t n E :=
  ⟨by rw [hF _ _ (fun z => by have := z.1; omega)]; exact h.1, fun k hk => by rw [hF _ _ (fun z => by have := z.1; omega), hF _ _ (fun z => by have := z.1; omega)]; exact h.2 k hk⟩
def twO (t n : Nat) (E : Nat → Int32) (x : (Nat × Nat) × Nat) (I' : Nat → Nat → Int32) : Prop := I' 4 4 = nI x.2 ∧ TBx I' t (n + 1) (tb2 E n x.1.1 x.1.2)
theorem tb2_lo {E : Nat → Int32} {n v w k : Nat} (h : k < n) : tb2 E n v w (6 + 2 * k) = E (6 + 2 * k) ∧ tb2 E n v w (6 + 2 * k + 1) = E (6 + 2 * k + 1) := by
  unfold tb2
  rw [vu_ne _ _ (by omega), vu_ne _ _ (by omega), vu_ne _ _ (by omega), vu_ne _ _ (by omega)]
  exact ⟨rfl, rfl⟩
theorem tb2_at {E : Nat → Int32} {n v w : Nat} : tb2 E n v w (6 + 2 * n) = nI v ∧ tb2 E n v w (6 + 2 * n + 1) = nI w := by
  unfold tb2
  rw [vu_ne _ _ (by omega), vu_same, vu_same]
  exact ⟨rfl, rfl⟩
set_option maxRecDepth 20000 in
theorem c_readTwo (l : Launch) (G : GT) {I : Nat → Nat → Int32} {L : Nat → Nat → Int64} {R : Nat → Nat → Option Nat} (hL : Lay R) {t : Nat} (ht : isT t) {T : Nat → TK} {N i : Nat} (hN : TN T N) (hS : SE I R T N i) {n lw lx : Nat} {E : Nat → Int32} (hB : TBx I t n E) (hI : TBI E n lw lx) : Mt l G mX4_readTwo (2) 0 0 [.ref (ra G 4), .ref (ra G t)] (wd I L R) (PX I L R (tQ0 t) (tQ1 t) (twO t n E) (pTwo T n lw lx i)) := by
  refine mt_of (own := RX4) (by decide) rfl rfl (fun Z C P B => ?_)
  have D := @dc_of _ _ dX4_readTwo
  have ht20 := t_ge ht
  have hN1 := hN.1
  have hi1 := hS.2.2
  refine j_aload_n C (D 0 rfl) rfl ?_
  refine j_geti C f_X4_216 (sT0 ht) rfl rfl (D 1 rfl) ?_
  rw [hB.1]
  refine j_istore_n C (D 2 rfl) rfl ?_
  refine j_iload_n C (D 3 rfl) rfl ?_
  refine j_if_le C  22 (D 4 rfl) (by decide) (fun h6 => ?_) (fun h6 => ?_)
  · have hn0 : n = 0 := by
      rcases Nat.eq_zero_or_pos n with q | q
      · exact q
      · have := i_le.mp h6; have h8 := hI.1; rw [nI_int (by omega), i0] at this; omega
    subst hn0
    obtain ⟨rfl, rfl⟩ := hI.2.2.2.2.2.1 rfl
    have hlw : (0 : Nat) ≤ 100000 := by omega
    have hlx : (0 : Nat) ≤ 100000 := by omega
    refine j_iconst C (v := nI 0) (D 14 rfl) rfl ?_
    refine j_istore_n C (D 15 rfl) rfl ?_
    refine j_iload_n C (D 16 rfl) rfl ?_
    refine j_if_le C  39 (D 17 rfl) (by decide) (fun h25 => ?_) (fun h25 => absurd h25 (fun z => z h6))
    refine j_iconst C (v := nI 0) (D 25 rfl) rfl ?_
    refine j_istore C (D 26 rfl) rfl ?_
    refine j_aload_n C (D 27 rfl) rfl ?_
    refine j_iload_n C (D 28 rfl) rfl ?_
    refine j_ldc C (v := 99999) (D 29 rfl) n_X4_175 ?_
    refine j_callV C B k_X4_100 (rc_obj C (lit (kd := 4) (n := 8) rfl) rfl rfl) (c_takeNumber _ _ hL hN hS (hx := 100000) (hi := 99999) hlw (by omega) (by decide)) rfl rfl rfl rfl ⟨Nat.le_refl _, Nat.le_refl _⟩ (D 30 rfl) ?_
    rintro r w' ⟨rfl, I2, rfl, k0, k1⟩
    refine j_if_ne C  54 (D 31 rfl) (by decide) (fun h49 => ?_) (fun h49 => ?_)
    · obtain ⟨⟨v, j⟩, hq⟩ := okB_ne h49
      obtain ⟨⟨z0, zv⟩, zF⟩ := k1 _ hq
      have z0 : I2 4 4 = nI j := z0
      have zv : I2 4 5 = nI v := zv
      obtain ⟨b1, b2, b3, b4⟩ := pNum_go hN hi1 hq
      refine j_iload_n C (D 34 rfl) rfl ?_
      refine j_bipush C (v := nI 8) (D 35 rfl) rfl ?_
      refine j_icmp_lt C  76 (D 36 rfl) (by decide) (fun h57 => ?_) (fun h57 => ?_)
      · have hn8 : ¬ (0 : Nat) = 8 := by omega
        have wF : Fx (tQ0 t) I (up2 I2 (t + 1) 0 (nI v)) := Fx.up (zF.mo (rPQ0 t)) (Or.inr (Or.inr (Or.inl rfl)))
        have hS2 : SE (up2 I2 (t + 1) 0 (nI v)) R T N j := SE_go hS wF (fun b k z => by unfold tQ0 at z; omega) (by rw [up2_i (by omega)]; exact z0) (by omega)
        refine j_aload_n C (D 47 rfl) rfl ?_
        refine j_getr C f_X4_225 (sT0 ht) rfl rfl (hL _ _ _ (rT7 ht)) (D 48 rfl) ?_
        refine j_iload_n C (D 49 rfl) rfl ?_
        refine j_aload_n C (D 50 rfl) rfl ?_
        refine j_geti C f_X4_90 (lit (kd := 4) (n := 8) rfl) rfl rfl (D 51 rfl) ?_
        rw [zv]
        refine j_iast C (sT1 ht) (ix_n (by omega) (by decide)) (D 52 rfl) ?_
        refine j_aload_n C (D 53 rfl) rfl ?_
        refine j_gsgn C (i := 28) (by decide) s_X4_231 (D 54 rfl) ?_
        refine j_callV C B k_X4_63 (rc_obj C (lit (kd := 4) (n := 8) rfl) rfl rfl) (c_take _ _ hL hN hS2 (by decide)) rfl rfl rfl rfl ⟨Nat.le_refl _, Nat.le_refl _⟩ (D 55 rfl) ?_
        rintro r w' ⟨rfl, I3, rfl, k2, k3⟩
        refine j_if_eq C  108 (D 56 rfl) (by decide) (fun h93 => ?_) (fun h93 => ?_)
        · obtain ⟨e2, hq2⟩ := okB_eq h93
          obtain ⟨x0, x1, x2⟩ := k2 e2 hq2
          refine j_iconst C (v := nI 0) (D 62 rfl) rfl ?_
          exact j_zret C P rfl (by first | exact Or.inl rfl | exact Or.inr rfl | assumption) (D 63 rfl) ⟨Nat.le_refl _, Nat.le_refl _⟩ (PX_e (e := e2) (by unfold pTwo; rw [hq, bnd_r, if_neg hn8, hq2, bnd_l]) x0 x1 ((wF.mo (tQ01 t)).tr (x2.mo (rPQ1 t))))
        · obtain ⟨j2, hq2⟩ := okB_ne h93
          obtain ⟨x0, xF⟩ := k3 j2 hq2
          have x0 : I3 4 4 = nI j2 := x0
          obtain ⟨d1, d2⟩ := pTake_go hN (by omega) (by omega) hq2
          have hS3 := SE_go hS2 xF (fun b k z => by have := z.1; omega) x0 (by omega)
          refine j_aload_n C (D 57 rfl) rfl ?_
          refine j_iload C (D 58 rfl) rfl ?_
          refine j_sipush C (v := nI 2000) (D 59 rfl) rfl ?_
          refine j_callV C B k_X4_100 (rc_obj C (lit (kd := 4) (n := 8) rfl) rfl rfl) (c_takeNumber _ _ hL hN hS3 (hx := 2001) (hi := nI 2000) hlx (by omega) (by decide)) rfl rfl rfl rfl ⟨Nat.le_refl _, Nat.le_refl _⟩ (D 60 rfl) ?_
          rintro r w' ⟨rfl, I4, rfl, k4, k5⟩
          refine j_if_ne C  110 (D 61 rfl) (by decide) (fun h105 => ?_) (fun h105 => ?_)
          · obtain ⟨⟨w, j3⟩, hq3⟩ := okB_ne h105
            obtain ⟨⟨y0, yv⟩, yF⟩ := k5 _ hq3
            have y0 : I4 4 4 = nI j3 := y0
            have yv : I4 4 5 = nI w := yv
            refine j_aload_n C (D 64 rfl) rfl ?_
            refine j_getr C f_X4_228 (sT0 ht) rfl rfl (hL _ _ _ (rT8 ht)) (D 65 rfl) ?_
            refine j_iload_n C (D 66 rfl) rfl ?_
            refine j_aload_n C (D 67 rfl) rfl ?_
            refine j_geti C f_X4_90 (lit (kd := 4) (n := 8) rfl) rfl rfl (D 68 rfl) ?_
            rw [yv]
            refine j_iast C (sT2 ht) (ix_n (by omega) (by decide)) (D 69 rfl) ?_
            refine j_aload_n C (D 70 rfl) rfl ?_
            refine j_dup C (D 71 rfl) rfl ?_
            refine j_geti C f_X4_216 (sT0 ht) rfl rfl (D 72 rfl) ?_
            rw [up2_i (by omega), (xF.tr yF) _ _ (fun z => by have := z.1; omega), up2_i (by omega), zF _ _ (fun z => by have := z.1; omega), hB.1]
            refine j_iconst C (v := nI 1) (D 73 rfl) rfl ?_
            refine j_iadd C (D 74 rfl) ?_
            rw [nI_add]
            refine j_puti C f_X4_216 (sT0 ht) rfl rfl (D 75 rfl) ?_
            refine j_iconst C (v := nI 1) (D 76 rfl) rfl ?_
            exact j_zret C P rfl (by first | exact Or.inl rfl | exact Or.inr rfl | assumption) (D 77 rfl) ⟨Nat.le_refl _, Nat.le_refl _⟩ (PX_o (a := ((v, w), j3)) (by unfold pTwo; rw [hq, bnd_r, if_neg hn8, hq2, bnd_r, hq3, bnd_r]) ⟨by rw [up2_i (by omega), up2_i (by omega)]; exact y0, by
  refine ⟨up2_same _ _ _ _, fun x hx => ?_⟩
  show up2 _ _ _ _ (t + 1) x = tb2 E 0 v w (6 + 2 * x) ∧ up2 _ _ _ _ (t + 2) x = tb2 E 0 v w (6 + 2 * x + 1)
  rw [up2_i (by omega), up2_i (by omega), up2_i (by omega), (xF.tr yF) (t + 1) x (fun z => by have := z.1; omega)]
  by_cases q : x = 0
  · rw [q, up2_same, up2_same, tb2_at.1, tb2_at.2]; exact ⟨rfl, rfl⟩
  · rw [up2_i (by omega), up2_i (by omega), (xF.tr yF) (t + 2) x (fun z => by have := z.1; omega), up2_i (by omega), (tb2_lo (by omega)).1, (tb2_lo (by omega)).2, zF _ _ (fun z => by have := z.1; omega), zF _ _ (fun z => by have := z.1; omega)]; exact hB.2 x (by omega)⟩ (Fx.up (Fx.up (wF.tr ((xF.tr yF).mo (rPQ0 t))) (Or.inr (Or.inr (Or.inr rfl)))) (Or.inr (Or.inl ⟨rfl, rfl⟩))))
          · obtain ⟨e3, hq3⟩ := okB_eq h105
            obtain ⟨y0, y1, y2⟩ := k4 e3 hq3
            refine j_iconst C (v := nI 0) (D 62 rfl) rfl ?_
            exact j_zret C P rfl (by first | exact Or.inl rfl | exact Or.inr rfl | assumption) (D 63 rfl) ⟨Nat.le_refl _, Nat.le_refl _⟩ (PX_e (e := e3) (by unfold pTwo; rw [hq, bnd_r, if_neg hn8, hq2, bnd_r, hq3, bnd_l]) y0 y1 (((wF.tr (xF.mo (rPQ0 t))).mo (tQ01 t)).tr (y2.mo (rPQ1 t))))
      · have hn8 : (0 : Nat) = 8 := by have := hI.1; have : ¬ 0 < 8 := fun z => h57 ((nlt (by omega) (by omega)).mpr z); omega
        refine j_aload_n C (D 37 rfl) rfl ?_
        refine j_dup C (D 38 rfl) rfl ?_
        refine j_geti C f_X4_36 (lit (kd := 4) (n := 8) rfl) rfl rfl (D 39 rfl) ?_
        rw [z0, show j = i + 1 from b2]
        refine j_iconst C (v := nI 1) (D 40 rfl) rfl ?_
        refine j_isub C (D 41 rfl) ?_
        rw [pk_sub (by omega), show i + 1 - 1 = i from rfl]
        refine j_puti C f_X4_36 (lit (kd := 4) (n := 8) rfl) rfl rfl (D 42 rfl) ?_
        refine j_aload_n C (D 43 rfl) rfl ?_
        refine j_iconst C (v := nI 4) (D 44 rfl) rfl ?_
        refine j_callV C B k_X4_80 (rc_obj C (lit (kd := 4) (n := 8) rfl) rfl rfl) (c_refuse _ _ hL hN (SE_go hS (Fx.up (zF.mo (rPQ0 t)) (Or.inl ⟨rfl, by omega⟩)) (fun b k z => by unfold tQ0 at z; omega) (up2_same _ _ _ _) hi1) 4) rfl rfl rfl rfl ⟨Nat.le_refl _, Nat.le_refl _⟩ (D 45 rfl) ?_
        rintro r w' ⟨rfl, rfl⟩
        exact j_zret C P rfl (by first | exact Or.inl rfl | exact Or.inr rfl | assumption) (D 46 rfl) ⟨Nat.le_refl _, Nat.le_refl _⟩ (PX_e (e := fl T i 4) (by unfold pTwo; rw [hq, bnd_r, if_pos hn8]) flt0 (up2_same _ _ _ _) (Fx.up (Fx.up (Fx.up (zF.mo (rPQ01 t)) (Or.inl ⟨rfl, by omega⟩)) (Or.inl ⟨rfl, by omega⟩)) (Or.inl ⟨rfl, by omega⟩)))
    · obtain ⟨e, hq⟩ := okB_eq h49
      obtain ⟨z0, z1, z2⟩ := k0 e hq
      refine j_iconst C (v := nI 0) (D 32 rfl) rfl ?_
      exact j_zret C P rfl (by first | exact Or.inl rfl | exact Or.inr rfl | assumption) (D 33 rfl) ⟨Nat.le_refl _, Nat.le_refl _⟩ (PX_e (e := e) (by unfold pTwo; rw [hq, bnd_l]) z0 z1 (z2.mo (rPQ1 t)))
  · have hn0 : 0 < n := by
      rcases Nat.eq_zero_or_pos n with q | q
      · exact absurd (by rw [q]; decide) h6
      · exact q
    obtain ⟨k, rfl⟩ : ∃ k, n = k + 1 := ⟨n - 1, by omega⟩
    have h8 := hI.1
    have h7 := hI.2.2.2.2.2.2 k rfl
    have h4 := hI.2.2.2.1 k (by omega)
    have hlw : lw ≤ 100000 := hI.2.1
    have hlx : lx ≤ 100000 := by have := hI.2.2.1; omega
    have eW : E (6 + 2 * k) + nI 1 = nI lw := by
      unfold tabW at h7 h4
      rw [i_eq, i_add (by rw [nI_int (by omega)]; omega) (by rw [nI_int (by omega)]; omega), nI_int (by omega), nI_int (by omega)]
      omega
    have eX : E (6 + 2 * k + 1) = nI lx := by
      unfold tabX at h7
      rw [i_eq, nI_int (by omega)]; omega
    refine j_aload_n C (D 5 rfl) rfl ?_
    refine j_getr C f_X4_225 (sT0 ht) rfl rfl (hL _ _ _ (rT7 ht)) (D 6 rfl) ?_
    refine j_iload_n C (D 7 rfl) rfl ?_
    refine j_iconst C (v := nI 1) (D 8 rfl) rfl ?_
    refine j_isub C (D 9 rfl) ?_
    rw [pk_sub (by omega), show k + 1 - 1 = k from rfl]
    refine j_iald C (sT1 ht) (ix_n (by omega) (by decide)) (D 10 rfl) ?_
    rw [(hB.2 k (by omega)).1]
    refine j_iconst C (v := nI 1) (D 11 rfl) rfl ?_
    refine j_iadd C (D 12 rfl) ?_
    rw [eW]
    refine j_goto C 23 (D 13 rfl) (by decide) ?_
    refine j_istore_n C (D 15 rfl) rfl ?_
    refine j_iload_n C (D 16 rfl) rfl ?_
    refine j_if_le C  39 (D 17 rfl) (by decide) (fun h25 => absurd h25 (fun z => h6 z)) (fun h25 => ?_)
    refine j_aload_n C (D 18 rfl) rfl ?_
    refine j_getr C f_X4_228 (sT0 ht) rfl rfl (hL _ _ _ (rT8 ht)) (D 19 rfl) ?_
    refine j_iload_n C (D 20 rfl) rfl ?_
    refine j_iconst C (v := nI 1) (D 21 rfl) rfl ?_
    refine j_isub C (D 22 rfl) ?_
    rw [pk_sub (by omega), show k + 1 - 1 = k from rfl]
    refine j_iald C (sT2 ht) (ix_n (by omega) (by decide)) (D 23 rfl) ?_
    rw [(hB.2 k (by omega)).2, eX]
    refine j_goto C 40 (D 24 rfl) (by decide) ?_
    refine j_istore C (D 26 rfl) rfl ?_
    refine j_aload_n C (D 27 rfl) rfl ?_
    refine j_iload_n C (D 28 rfl) rfl ?_
    refine j_ldc C (v := 99999) (D 29 rfl) n_X4_175 ?_
    refine j_callV C B k_X4_100 (rc_obj C (lit (kd := 4) (n := 8) rfl) rfl rfl) (c_takeNumber _ _ hL hN hS (hx := 100000) (hi := 99999) hlw (by omega) (by decide)) rfl rfl rfl rfl ⟨Nat.le_refl _, Nat.le_refl _⟩ (D 30 rfl) ?_
    rintro r w' ⟨rfl, I2, rfl, k0, k1⟩
    refine j_if_ne C  54 (D 31 rfl) (by decide) (fun h49 => ?_) (fun h49 => ?_)
    · obtain ⟨⟨v, j⟩, hq⟩ := okB_ne h49
      obtain ⟨⟨z0, zv⟩, zF⟩ := k1 _ hq
      have z0 : I2 4 4 = nI j := z0
      have zv : I2 4 5 = nI v := zv
      obtain ⟨b1, b2, b3, b4⟩ := pNum_go hN hi1 hq
      refine j_iload_n C (D 34 rfl) rfl ?_
      refine j_bipush C (v := nI 8) (D 35 rfl) rfl ?_
      refine j_icmp_lt C  76 (D 36 rfl) (by decide) (fun h57 => ?_) (fun h57 => ?_)
      · have hn8 : ¬ k + 1 = 8 := by rw [nlt (by omega) (by omega)] at h57; omega
        have wF : Fx (tQ0 t) I (up2 I2 (t + 1) (k + 1) (nI v)) := Fx.up (zF.mo (rPQ0 t)) (Or.inr (Or.inr (Or.inl rfl)))
        have hS2 : SE (up2 I2 (t + 1) (k + 1) (nI v)) R T N j := SE_go hS wF (fun b k z => by unfold tQ0 at z; omega) (by rw [up2_i (by omega)]; exact z0) (by omega)
        refine j_aload_n C (D 47 rfl) rfl ?_
        refine j_getr C f_X4_225 (sT0 ht) rfl rfl (hL _ _ _ (rT7 ht)) (D 48 rfl) ?_
        refine j_iload_n C (D 49 rfl) rfl ?_
        refine j_aload_n C (D 50 rfl) rfl ?_
        refine j_geti C f_X4_90 (lit (kd := 4) (n := 8) rfl) rfl rfl (D 51 rfl) ?_
        rw [zv]
        refine j_iast C (sT1 ht) (ix_n (by omega) (by decide)) (D 52 rfl) ?_
        refine j_aload_n C (D 53 rfl) rfl ?_
        refine j_gsgn C (i := 28) (by decide) s_X4_231 (D 54 rfl) ?_
        refine j_callV C B k_X4_63 (rc_obj C (lit (kd := 4) (n := 8) rfl) rfl rfl) (c_take _ _ hL hN hS2 (by decide)) rfl rfl rfl rfl ⟨Nat.le_refl _, Nat.le_refl _⟩ (D 55 rfl) ?_
        rintro r w' ⟨rfl, I3, rfl, k2, k3⟩
        refine j_if_eq C  108 (D 56 rfl) (by decide) (fun h93 => ?_) (fun h93 => ?_)
        · obtain ⟨e2, hq2⟩ := okB_eq h93
          obtain ⟨x0, x1, x2⟩ := k2 e2 hq2
          refine j_iconst C (v := nI 0) (D 62 rfl) rfl ?_
          exact j_zret C P rfl (by first | exact Or.inl rfl | exact Or.inr rfl | assumption) (D 63 rfl) ⟨Nat.le_refl _, Nat.le_refl _⟩ (PX_e (e := e2) (by unfold pTwo; rw [hq, bnd_r, if_neg hn8, hq2, bnd_l]) x0 x1 ((wF.mo (tQ01 t)).tr (x2.mo (rPQ1 t))))
        · obtain ⟨j2, hq2⟩ := okB_ne h93
          obtain ⟨x0, xF⟩ := k3 j2 hq2
          have x0 : I3 4 4 = nI j2 := x0
          obtain ⟨d1, d2⟩ := pTake_go hN (by omega) (by omega) hq2
          have hS3 := SE_go hS2 xF (fun b k z => by have := z.1; omega) x0 (by omega)
          refine j_aload_n C (D 57 rfl) rfl ?_
          refine j_iload C (D 58 rfl) rfl ?_
          refine j_sipush C (v := nI 2000) (D 59 rfl) rfl ?_
          refine j_callV C B k_X4_100 (rc_obj C (lit (kd := 4) (n := 8) rfl) rfl rfl) (c_takeNumber _ _ hL hN hS3 (hx := 2001) (hi := nI 2000) hlx (by omega) (by decide)) rfl rfl rfl rfl ⟨Nat.le_refl _, Nat.le_refl _⟩ (D 60 rfl) ?_
          rintro r w' ⟨rfl, I4, rfl, k4, k5⟩
          refine j_if_ne C  110 (D 61 rfl) (by decide) (fun h105 => ?_) (fun h105 => ?_)
          · obtain ⟨⟨w, j3⟩, hq3⟩ := okB_ne h105
            obtain ⟨⟨y0, yv⟩, yF⟩ := k5 _ hq3
            have y0 : I4 4 4 = nI j3 := y0
            have yv : I4 4 5 = nI w := yv
            refine j_aload_n C (D 64 rfl) rfl ?_
            refine j_getr C f_X4_228 (sT0 ht) rfl rfl (hL _ _ _ (rT8 ht)) (D 65 rfl) ?_
            refine j_iload_n C (D 66 rfl) rfl ?_
            refine j_aload_n C (D 67 rfl) rfl ?_
            refine j_geti C f_X4_90 (lit (kd := 4) (n := 8) rfl) rfl rfl (D 68 rfl) ?_
            rw [yv]
            refine j_iast C (sT2 ht) (ix_n (by omega) (by decide)) (D 69 rfl) ?_
            refine j_aload_n C (D 70 rfl) rfl ?_
            refine j_dup C (D 71 rfl) rfl ?_
            refine j_geti C f_X4_216 (sT0 ht) rfl rfl (D 72 rfl) ?_
            rw [up2_i (by omega), (xF.tr yF) _ _ (fun z => by have := z.1; omega), up2_i (by omega), zF _ _ (fun z => by have := z.1; omega), hB.1]
            refine j_iconst C (v := nI 1) (D 73 rfl) rfl ?_
            refine j_iadd C (D 74 rfl) ?_
            rw [nI_add]
            refine j_puti C f_X4_216 (sT0 ht) rfl rfl (D 75 rfl) ?_
            refine j_iconst C (v := nI 1) (D 76 rfl) rfl ?_
            exact j_zret C P rfl (by first | exact Or.inl rfl | exact Or.inr rfl | assumption) (D 77 rfl) ⟨Nat.le_refl _, Nat.le_refl _⟩ (PX_o (a := ((v, w), j3)) (by unfold pTwo; rw [hq, bnd_r, if_neg hn8, hq2, bnd_r, hq3, bnd_r]) ⟨by rw [up2_i (by omega), up2_i (by omega)]; exact y0, by
  refine ⟨up2_same _ _ _ _, fun x hx => ?_⟩
  show up2 _ _ _ _ (t + 1) x = tb2 E (k + 1) v w (6 + 2 * x) ∧ up2 _ _ _ _ (t + 2) x = tb2 E (k + 1) v w (6 + 2 * x + 1)
  rw [up2_i (by omega), up2_i (by omega), up2_i (by omega), (xF.tr yF) (t + 1) x (fun z => by have := z.1; omega)]
  by_cases q : x = (k + 1)
  · rw [q, up2_same, up2_same, tb2_at.1, tb2_at.2]; exact ⟨rfl, rfl⟩
  · rw [up2_i (by omega), up2_i (by omega), (xF.tr yF) (t + 2) x (fun z => by have := z.1; omega), up2_i (by omega), (tb2_lo (by omega)).1, (tb2_lo (by omega)).2, zF _ _ (fun z => by have := z.1; omega), zF _ _ (fun z => by have := z.1; omega)]; exact hB.2 x (by omega)⟩ (Fx.up (Fx.up (wF.tr ((xF.tr yF).mo (rPQ0 t))) (Or.inr (Or.inr (Or.inr rfl)))) (Or.inr (Or.inl ⟨rfl, rfl⟩))))
          · obtain ⟨e3, hq3⟩ := okB_eq h105
            obtain ⟨y0, y1, y2⟩ := k4 e3 hq3
            refine j_iconst C (v := nI 0) (D 62 rfl) rfl ?_
            exact j_zret C P rfl (by first | exact Or.inl rfl | exact Or.inr rfl | assumption) (D 63 rfl) ⟨Nat.le_refl _, Nat.le_refl _⟩ (PX_e (e := e3) (by unfold pTwo; rw [hq, bnd_r, if_neg hn8, hq2, bnd_r, hq3, bnd_l]) y0 y1 (((wF.tr (xF.mo (rPQ0 t))).mo (tQ01 t)).tr (y2.mo (rPQ1 t))))
      · have hn8 : k + 1 = 8 := by have := hI.1; have : ¬ (k + 1) < 8 := fun z => h57 ((nlt (by omega) (by omega)).mpr z); omega
        refine j_aload_n C (D 37 rfl) rfl ?_
        refine j_dup C (D 38 rfl) rfl ?_
        refine j_geti C f_X4_36 (lit (kd := 4) (n := 8) rfl) rfl rfl (D 39 rfl) ?_
        rw [z0, show j = i + 1 from b2]
        refine j_iconst C (v := nI 1) (D 40 rfl) rfl ?_
        refine j_isub C (D 41 rfl) ?_
        rw [pk_sub (by omega), show i + 1 - 1 = i from rfl]
        refine j_puti C f_X4_36 (lit (kd := 4) (n := 8) rfl) rfl rfl (D 42 rfl) ?_
        refine j_aload_n C (D 43 rfl) rfl ?_
        refine j_iconst C (v := nI 4) (D 44 rfl) rfl ?_
        refine j_callV C B k_X4_80 (rc_obj C (lit (kd := 4) (n := 8) rfl) rfl rfl) (c_refuse _ _ hL hN (SE_go hS (Fx.up (zF.mo (rPQ0 t)) (Or.inl ⟨rfl, by omega⟩)) (fun b k z => by unfold tQ0 at z; omega) (up2_same _ _ _ _) hi1) 4) rfl rfl rfl rfl ⟨Nat.le_refl _, Nat.le_refl _⟩ (D 45 rfl) ?_
        rintro r w' ⟨rfl, rfl⟩
        exact j_zret C P rfl (by first | exact Or.inl rfl | exact Or.inr rfl | assumption) (D 46 rfl) ⟨Nat.le_refl _, Nat.le_refl _⟩ (PX_e (e := fl T i 4) (by unfold pTwo; rw [hq, bnd_r, if_pos hn8]) flt0 (up2_same _ _ _ _) (Fx.up (Fx.up (Fx.up (zF.mo (rPQ01 t)) (Or.inl ⟨rfl, by omega⟩)) (Or.inl ⟨rfl, by omega⟩)) (Or.inl ⟨rfl, by omega⟩)))
    · obtain ⟨e, hq⟩ := okB_eq h49
      obtain ⟨z0, z1, z2⟩ := k0 e hq
      refine j_iconst C (v := nI 0) (D 32 rfl) rfl ?_
      exact j_zret C P rfl (by first | exact Or.inl rfl | exact Or.inr rfl | assumption) (D 33 rfl) ⟨Nat.le_refl _, Nat.le_refl _⟩ (PX_e (e := e) (by unfold pTwo; rw [hq, bnd_l]) z0 z1 (z2.mo (rPQ1 t)))
/-- what a Trial holds of a CURVE -/
def TRc (I : Nat → Nat → Int32) (t : Nat) (E : Nat → Int32) : Prop := I t 2 = E 2 ∧ (E 2 = 3 → I t 6 = E 3 ∧ ∀ k : Nat, (k : Int) < (E 3).toInt → I (t + 1) k = E (6 + 2 * k) ∧ I (t + 2) k = E (6 + 2 * k + 1)) ∧ (¬ E 2 = 3 → I t 3 = E 3 ∧ I t 4 = E 4)
def cuO (t : Nat) (x : (Nat → Int32) × Nat) (I' : Nat → Nat → Int32) : Prop := I' 4 4 = nI x.2 ∧ TRc I' t x.1
theorem TRc_tb {I : Nat → Nat → Int32} {t n : Nat} {E : Nat → Int32} (h2 : I t 2 = nI 3) (hB : TBx I t n E) (hn : n ≤ 8) : TRc I t (tbE (n, E)) := by
  have e6 : ∀ k, 6 ≤ k → tbE (n, E) k = E k := fun k hk => by unfold tbE; rw [vu_ne _ _ (by omega), vu_ne _ _ (by omega), vu_ne _ _ (by omega)]
  have e2 : tbE (n, E) 2 = nI 3 := by unfold tbE; rw [vu_ne _ _ (by omega), vu_ne _ _ (by omega), vu_same]
  have e3 : tbE (n, E) 3 = nI n := by unfold tbE; rw [vu_ne _ _ (by omega), vu_same]
  refine ⟨by rw [e2]; exact h2, fun _ => ⟨by rw [e3]; exact hB.1, fun k hk => ?_⟩, fun z => absurd (by rw [e2]; rfl) z⟩
  rw [e3, nI_int (by omega)] at hk
  rw [e6 _ (by omega), e6 _ (by omega)]
  exact hB.2 k (by omega)
set_option maxRecDepth 20000 in
theorem c_readTable (l : Launch) (G : GT) {I : Nat → Nat → Int32} {L : Nat → Nat → Int64} {R : Nat → Nat → Option Nat} (hL : Lay R) {t : Nat} (ht : isT t) {T : Nat → TK} {N i : Nat} (hN : TN T N) (hS : SE I R T N i) {E : Nat → Int32} (h9 : (T i).1 = 9) (hlt : i < N) : Mt l G mX4_readTable (3) 0 0 [.ref (ra G 4), .ref (ra G t)] (wd I L R) (PX I L R (tS0 t) (tS1 t) (cuO t) (pCur T i E)) := by
  refine mt_of (own := RX4) (by decide) rfl rfl (fun Z C P B => ?_)
  have D := @dc_of _ _ dX4_readTable
  have ht20 := t_ge ht
  have hN1 := hN.1
  have hi1 := hS.2.2
  have L1 : ∀ f n lw lx (E1 : Nat → Int32) (i1 : Nat) (I1 : Nat → Nat → Int32), n + f = 9 → i1 < N → SE I1 R T N i1 → TBx I1 t n E1 → TBI E1 n lw lx → Fx (tS0 t) I I1 → I1 t 2 = nI 3 → pTab T f n lw lx E1 i1 = pTab T 9 0 0 0 E i → J Z (0, 0) 14 [some (.ref (ra G 4)), some (.ref (ra G t)), some (.int (nI 1)), some (.int (nI n))] [] (wd I1 L R) := by
    intro f
    induction f with
    | zero =>
      intro n lw lx E1 i1 I1 hf hi2 hS1 hB hI
      exact absurd hI.1 (by omega)
    | succ f ih =>
      intro n lw lx E1 i1 I1 hf hi2 hS1 hB hI hF h2 he
      have hn8 := hI.1
      refine j_iload_n C (D 10 rfl) rfl ?_
      refine j_bipush C (v := nI 8) (D 11 rfl) rfl ?_
      refine j_icmp_gt C  53 (D 12 rfl) (by decide) (fun h17 => absurd h17 (fun z => by rw [nlt (by omega) (by omega)] at z; omega)) (fun h17 => ?_)
      refine j_iload_n C (D 13 rfl) rfl ?_
      refine j_if_eq C  53 (D 14 rfl) (by decide) (fun h21 => absurd h21 (by decide)) (fun h21 => ?_)
      refine j_aload_n C (D 15 rfl) rfl ?_
      refine j_callV C B k_X4_77 (rc_obj C (lit (kd := 4) (n := 8) rfl) rfl rfl) (c_advance _ _ hL hN hS1 hi2) rfl rfl rfl rfl ⟨Nat.le_refl _, Nat.le_refl _⟩ (D 16 rfl) ?_
      rintro r w' ⟨rfl, rfl⟩
      refine j_pop C (D 17 rfl) rfl ?_
      refine j_aload_n C (D 18 rfl) rfl ?_
      refine j_aload_n C (D 19 rfl) rfl ?_
      refine j_callV C B k_X4_219 (rc_obj C (lit (kd := 4) (n := 8) rfl) rfl rfl) (c_readTwo _ _ hL ht hN (SE_go hS1 (adv_F (v := nI (i1 + 1))) (fun b k z => by have := z.1; omega) (up2_same _ _ _ _) hi2) (TBx_r ht20 hB adv_F) hI) rfl rfl rfl rfl ⟨Nat.le_refl _, Nat.le_refl _⟩ (D 20 rfl) ?_
      rintro r w' ⟨rfl, I2, rfl, k0, k1⟩
      refine j_if_ne C  39 (D 21 rfl) (by decide) (fun h34 => ?_) (fun h34 => ?_)
      · obtain ⟨⟨⟨v, w⟩, j⟩, hq⟩ := okB_ne h34
        obtain ⟨⟨z0, zB⟩, zF⟩ := k1 _ hq
        have z0 : I2 4 4 = nI j := z0
        have zB : TBx I2 t (n + 1) (tb2 E1 n v w) := zB
        obtain ⟨a0, a1, a2, a3, a4, a5, a6⟩ := pTwo_go hN (by omega) hq
        have gF := hF.tr ((adv_F.mo (rPS0 t)).tr (zF.mo (tQS0 t)))
        have hS2 := SE_go hS gF (fun b k z => by unfold tS0 at z; omega) z0 a2
        have g2 : I2 t 2 = nI 3 := by rw [zF _ _ (fun z => by unfold tQ0 at z; omega), up2_i (by omega)]; exact h2
        refine j_aload_n C (D 24 rfl) rfl ?_
        refine j_gsgn C (i := 29) (by decide) s_X4_222 (D 25 rfl) ?_
        refine j_cVp C B k_X4_52 (rc_obj C (lit (kd := 4) (n := 8) rfl) rfl rfl) (c_sees _ _ hL hN hS2 (by decide)) rfl rfl rfl rfl ⟨Nat.le_refl _, Nat.le_refl _⟩ (D 26 rfl) ?_
        refine j_istore_n C (D 27 rfl) rfl ?_
        first | refine j_iinc1 C (D 28 rfl) rfl rfl ?_ | refine j_iinc C (D 28 rfl) rfl rfl rfl ?_
        refine j_goto C 14 (D 29 rfl) (by decide) ?_
        by_cases cc : (T j).1 = 29
        · rw [show b2 ((T j).1 = 29) = nI 1 from (b2_t cc).symm]
          exact ih (n + 1) (v + 1) w (tb2 E1 n v w) j I2 (by omega) (lt_sg hN a2 cc (by decide)) hS2 zB (TBI_s hI (by omega) ⟨a3, a4⟩ ⟨a5, a6⟩) gF g2 (by rw [← he, pTab, hq, bnd_r, if_pos cc])
        · rw [show b2 ((T j).1 = 29) = nI 0 from (b2_f cc).symm]
          refine j_iload_n C (D 10 rfl) rfl ?_
          refine j_bipush C (v := nI 8) (D 11 rfl) rfl ?_
          refine j_icmp_gt C  53 (D 12 rfl) (by decide) (fun h17 => absurd h17 (fun z => by rw [nlt (by omega) (by omega)] at z; omega)) (fun h17 => ?_)
          refine j_iload_n C (D 13 rfl) rfl ?_
          refine j_if_eq C  53 (D 14 rfl) (by decide) (fun h21 => ?_) (fun h21 => absurd h21 (fun z => z rfl))
          refine j_iconst C (v := nI 1) (D 30 rfl) rfl ?_
          exact j_zret C P rfl (by first | exact Or.inl rfl | exact Or.inr rfl | assumption) (D 31 rfl) ⟨Nat.le_refl _, Nat.le_refl _⟩ (PX_o (a := (tbE (n + 1, tb2 E1 n v w), j)) (by unfold pCur; rw [if_pos h9, ← he, pTab, hq, bnd_r, if_neg cc, bnd_r]) ⟨z0, TRc_tb g2 zB (by omega)⟩ gF)
      · obtain ⟨e, hq⟩ := okB_eq h34
        obtain ⟨z0, z1, z2⟩ := k0 e hq
        refine j_iconst C (v := nI 0) (D 22 rfl) rfl ?_
        exact j_zret C P rfl (by first | exact Or.inl rfl | exact Or.inr rfl | assumption) (D 23 rfl) ⟨Nat.le_refl _, Nat.le_refl _⟩ (PX_e (e := e) (by unfold pCur; rw [if_pos h9, ← he, pTab, hq, bnd_l, bnd_l]) z0 z1 (((hF.tr (adv_F.mo (rPS0 t))).mo (tS01 t)).tr (z2.mo (tQS1 t))))
  refine j_aload_n C (D 0 rfl) rfl ?_
  refine j_iconst C (v := nI 3) (D 1 rfl) rfl ?_
  refine j_puti C f_X4_198 (sT0 ht) rfl rfl (D 2 rfl) ?_
  refine j_aload_n C (D 3 rfl) rfl ?_
  refine j_iconst C (v := nI 0) (D 4 rfl) rfl ?_
  refine j_puti C f_X4_216 (sT0 ht) rfl rfl (D 5 rfl) ?_
  refine j_iconst C (v := nI 1) (D 6 rfl) rfl ?_
  refine j_istore_n C (D 7 rfl) rfl ?_
  refine j_iconst C (v := nI 0) (D 8 rfl) rfl ?_
  refine j_istore_n C (D 9 rfl) rfl ?_
  have gF : Fx (tS0 t) I (up2 (up2 I t 2 (nI 3)) t 6 (nI 0)) := Fx.up (Fx.up (Fx.rf _ _) (Or.inr (Or.inl ⟨rfl, by omega⟩))) (Or.inr (Or.inl ⟨rfl, by omega⟩))
  exact L1 9 0 0 0 E i _ rfl hlt (SE_go hS gF (fun b k z => by unfold tS0 at z; omega) (by rw [up2_i (by omega), up2_i (by omega)]; exact hS.2.1) hi1) ⟨up2_same _ _ _ _, fun k hk => by omega⟩ ⟨by omega, by omega, by omega, fun k z => by omega, fun k z => by omega, fun _ => ⟨rfl, rfl⟩, fun k z => by omega⟩ gF (by rw [up2_i (by omega), up2_same]) rfl
set_option maxRecDepth 20000 in
theorem c_readFormula (l : Launch) (G : GT) {I : Nat → Nat → Int32} {L : Nat → Nat → Int64} {R : Nat → Nat → Option Nat} (hL : Lay R) {t : Nat} (ht : isT t) {T : Nat → TK} {N i : Nat} (hN : TN T N) (hS : SE I R T N i) {E : Nat → Int32} (h9 : ¬ (T i).1 = 9) : Mt l G mX4_readFormula (2) 0 0 [.ref (ra G 4), .ref (ra G t)] (wd I L R) (PX I L R (tS0 t) (tS1 t) (cuO t) (pCur T i E)) := by
  refine mt_of (own := RX4) (by decide) rfl rfl (fun Z C P B => ?_)
  have D := @dc_of _ _ dX4_readFormula
  have ht20 := t_ge ht
  have hN1 := hN.1
  have hi1 := hS.2.2
  refine j_aload_n C (D 0 rfl) rfl ?_
  refine j_gsgn C (i := 6) (by decide) s_X4_195 (D 1 rfl) ?_
  refine j_cVp C B k_X4_52 (rc_obj C (lit (kd := 4) (n := 8) rfl) rfl rfl) (c_sees _ _ hL hN hS (by decide)) rfl rfl rfl rfl ⟨Nat.le_refl _, Nat.le_refl _⟩ (D 2 rfl) ?_
  refine j_if_eq C  18 (D 3 rfl) (by decide) (fun h7 => ?_) (fun h7 => ?_)
  · refine j_aload_n C (D 8 rfl) rfl ?_
    refine j_gsgn C (i := 7) (by decide) s_X4_201 (D 9 rfl) ?_
    refine j_cVp C B k_X4_52 (rc_obj C (lit (kd := 4) (n := 8) rfl) rfl rfl) (c_sees _ _ hL hN hS (by decide)) rfl rfl rfl rfl ⟨Nat.le_refl _, Nat.le_refl _⟩ (D 10 rfl) ?_
    refine j_if_eq C  36 (D 11 rfl) (by decide) (fun h25 => ?_) (fun h25 => ?_)
    · refine j_aload_n C (D 16 rfl) rfl ?_
      refine j_gsgn C (i := 8) (by decide) s_X4_204 (D 17 rfl) ?_
      refine j_cVp C B k_X4_52 (rc_obj C (lit (kd := 4) (n := 8) rfl) rfl rfl) (c_sees _ _ hL hN hS (by decide)) rfl rfl rfl rfl ⟨Nat.le_refl _, Nat.le_refl _⟩ (D 18 rfl) ?_
      refine j_if_eq C  54 (D 19 rfl) (by decide) (fun h43 => ?_) (fun h43 => ?_)
      · refine j_aload_n C (D 24 rfl) rfl ?_
        refine j_iconst C (v := nI 1) (D 25 rfl) rfl ?_
        refine j_callV C B k_X4_80 (rc_obj C (lit (kd := 4) (n := 8) rfl) rfl rfl) (c_refuse _ _ hL hN hS 1) rfl rfl rfl rfl ⟨Nat.le_refl _, Nat.le_refl _⟩ (D 26 rfl) ?_
        rintro r w' ⟨rfl, rfl⟩
        exact j_zret C P rfl (by first | exact Or.inl rfl | exact Or.inr rfl | assumption) (D 27 rfl) ⟨Nat.le_refl _, Nat.le_refl _⟩ (PX_e (e := fl T i 1) (by unfold pCur; rw [if_neg h9, if_pos (by unfold crv; rw [if_neg (b2_eq h7), if_neg (b2_eq h25), if_neg (b2_eq h43)])]) flt0 (up2_same _ _ _ _) (Fx.up (Fx.up (Fx.rf _ _) (Or.inl ⟨rfl, by omega⟩)) (Or.inl ⟨rfl, by omega⟩)))
      · refine j_aload_n C (D 20 rfl) rfl ?_
        refine j_iconst C (v := nI 2) (D 21 rfl) rfl ?_
        refine j_puti C f_X4_198 (sT0 ht) rfl rfl (D 22 rfl) ?_
        refine j_goto C 60 (D 23 rfl) (by decide) ?_
        have hcv : crv (T i).1 = 2 := by unfold crv; rw [if_neg (b2_eq h7), if_neg (b2_eq h25), if_pos (b2_ne h43)]
        have hlt := lt_sg hN hi1 (b2_ne h43) (by decide)
        have aF : Fx (tS0 t) I (up2 I t 2 (nI 2)) := Fx.up (Fx.rf _ _) (Or.inr (Or.inl ⟨rfl, by omega⟩))
        have hSa := SE_go hS aF (fun b k z => by unfold tS0 at z; omega) (by rw [up2_i (by omega)]; exact hS.2.1) hi1
        have hSb := SE_go hSa (adv_F (v := nI (i + 1))) (fun b k z => by have := z.1; omega) (up2_same _ _ _ _) hlt
        have bF := aF.tr ((adv_F (v := nI (i + 1))).mo (rPS0 t))
        refine j_aload_n C (D 28 rfl) rfl ?_
        refine j_callV C B k_X4_77 (rc_obj C (lit (kd := 4) (n := 8) rfl) rfl rfl) (c_advance _ _ hL hN hSa hlt) rfl rfl rfl rfl ⟨Nat.le_refl _, Nat.le_refl _⟩ (D 29 rfl) ?_
        rintro r w' ⟨rfl, rfl⟩
        refine j_pop C (D 30 rfl) rfl ?_
        refine j_aload_n C (D 31 rfl) rfl ?_
        refine j_iconst C (v := nI 1) (D 32 rfl) rfl ?_
        refine j_sipush C (v := nI 9999) (D 33 rfl) rfl ?_
        refine j_callV C B k_X4_100 (rc_obj C (lit (kd := 4) (n := 8) rfl) rfl rfl) (c_takeNumber _ _ hL hN hSb (lo := 1) (hx := 10000) (hi := nI 9999) (by omega) (by omega) (by decide)) rfl rfl rfl rfl ⟨Nat.le_refl _, Nat.le_refl _⟩ (D 34 rfl) ?_
        rintro r w' ⟨rfl, I2, rfl, k0, k1⟩
        refine j_if_ne C  78 (D 35 rfl) (by decide) (fun h73 => ?_) (fun h73 => ?_)
        · obtain ⟨⟨a, j⟩, hq⟩ := okB_ne h73
          obtain ⟨⟨z0, zv⟩, zF⟩ := k1 _ hq
          have z0 : I2 4 4 = nI j := z0
          have zv : I2 4 5 = nI a := zv
          obtain ⟨b1, b2, b3, b4⟩ := pNum_go hN (by omega) hq
          have wF : Fx (tS0 t) I (up2 I2 t 3 (nI a)) := Fx.up (bF.tr (zF.mo (rPS0 t))) (Or.inr (Or.inl ⟨rfl, by omega⟩))
          have hS2 : SE (up2 I2 t 3 (nI a)) R T N j := SE_go hS wF (fun b k z => by unfold tS0 at z; omega) (by rw [up2_i (by omega)]; exact z0) (by omega)
          refine j_aload_n C (D 38 rfl) rfl ?_
          refine j_aload_n C (D 39 rfl) rfl ?_
          refine j_geti C f_X4_90 (lit (kd := 4) (n := 8) rfl) rfl rfl (D 40 rfl) ?_
          rw [zv]
          refine j_puti C f_X4_207 (sT0 ht) rfl rfl (D 41 rfl) ?_
          refine j_aload_n C (D 42 rfl) rfl ?_
          refine j_gsgn C (i := 4) (by decide) s_X4_210 (D 43 rfl) ?_
          refine j_callV C B k_X4_63 (rc_obj C (lit (kd := 4) (n := 8) rfl) rfl rfl) (c_take _ _ hL hN hS2 (by decide)) rfl rfl rfl rfl ⟨Nat.le_refl _, Nat.le_refl _⟩ (D 44 rfl) ?_
          rintro r w' ⟨rfl, I3, rfl, k2, k3⟩
          refine j_if_eq C  106 (D 45 rfl) (by decide) (fun h93 => ?_) (fun h93 => ?_)
          · obtain ⟨e2, hq2⟩ := okB_eq h93
            obtain ⟨x0, x1, x2⟩ := k2 e2 hq2
            refine j_iconst C (v := nI 0) (D 51 rfl) rfl ?_
            exact j_zret C P rfl (by first | exact Or.inl rfl | exact Or.inr rfl | assumption) (D 52 rfl) ⟨Nat.le_refl _, Nat.le_refl _⟩ (PX_e (e := e2) (by unfold pCur; rw [if_neg h9, hcv, if_neg (by decide)]; unfold pFor; rw [hq, bnd_r, hq2, bnd_l]) x0 x1 ((wF.mo (tS01 t)).tr (x2.mo (rPS1 t))))
          · obtain ⟨j2, hq2⟩ := okB_ne h93
            obtain ⟨x0, xF⟩ := k3 j2 hq2
            have x0 : I3 4 4 = nI j2 := x0
            obtain ⟨d1, d2⟩ := pTake_go hN (by omega) (by omega) hq2
            have hS3 := SE_go hS2 xF (fun b k z => by have := z.1; omega) x0 (by omega)
            refine j_aload_n C (D 46 rfl) rfl ?_
            refine j_iconst C (v := nI 1) (D 47 rfl) rfl ?_
            refine j_ldc C (v := 99999) (D 48 rfl) n_X4_175 ?_
            refine j_callV C B k_X4_100 (rc_obj C (lit (kd := 4) (n := 8) rfl) rfl rfl) (c_takeNumber _ _ hL hN hS3 (lo := 1) (hx := 100000) (hi := 99999) (by omega) (by omega) (by decide)) rfl rfl rfl rfl ⟨Nat.le_refl _, Nat.le_refl _⟩ (D 49 rfl) ?_
            rintro r w' ⟨rfl, I4, rfl, k4, k5⟩
            refine j_if_ne C  108 (D 50 rfl) (by decide) (fun h103 => ?_) (fun h103 => ?_)
            · obtain ⟨⟨d, j3⟩, hq3⟩ := okB_ne h103
              obtain ⟨⟨y0, yv⟩, yF⟩ := k5 _ hq3
              have y0 : I4 4 4 = nI j3 := y0
              have yv : I4 4 5 = nI d := yv
              refine j_aload_n C (D 53 rfl) rfl ?_
              refine j_aload_n C (D 54 rfl) rfl ?_
              refine j_geti C f_X4_90 (lit (kd := 4) (n := 8) rfl) rfl rfl (D 55 rfl) ?_
              rw [yv]
              refine j_puti C f_X4_213 (sT0 ht) rfl rfl (D 56 rfl) ?_
              refine j_iconst C (v := nI 1) (D 57 rfl) rfl ?_
              exact j_zret C P rfl (by first | exact Or.inl rfl | exact Or.inr rfl | assumption) (D 58 rfl) ⟨Nat.le_refl _, Nat.le_refl _⟩ (PX_o (a := (va_up (va_up (va_up E 2 (nI 2)) 3 (nI a)) 4 (nI d), j3)) (by unfold pCur; rw [if_neg h9, hcv, if_neg (by decide)]; unfold pFor; rw [hq, bnd_r, hq2, bnd_r, hq3, bnd_r]) ⟨by rw [up2_i (by omega)]; exact y0, by
  refine ⟨?_, fun z => absurd z ?_, fun _ => ⟨?_, ?_⟩⟩
  · rw [up2_i (by omega), (xF.tr yF) _ _ (fun z => by have := z.1; omega), up2_i (by omega), zF _ _ (fun z => by have := z.1; omega), up2_i (by omega), up2_same]
    show _ = va_up (va_up (va_up E 2 (nI 2)) 3 (nI a)) 4 (nI d) 2
    rw [vu_ne _ _ (by omega), vu_ne _ _ (by omega), vu_same]
  · show ¬ va_up (va_up (va_up E 2 (nI 2)) 3 (nI a)) 4 (nI d) 2 = 3
    rw [vu_ne _ _ (by omega), vu_ne _ _ (by omega), vu_same]
    decide
  · rw [up2_i (by omega), (xF.tr yF) _ _ (fun z => by have := z.1; omega), up2_same]
    show _ = va_up (va_up (va_up E 2 (nI 2)) 3 (nI a)) 4 (nI d) 3
    rw [vu_ne _ _ (by omega), vu_same]
  · rw [up2_same]
    show _ = va_up (va_up (va_up E 2 (nI 2)) 3 (nI a)) 4 (nI d) 4
    rw [vu_same]⟩ (Fx.up (wF.tr ((xF.tr yF).mo (rPS0 t))) (Or.inr (Or.inl ⟨rfl, by omega⟩))))
            · obtain ⟨e3, hq3⟩ := okB_eq h103
              obtain ⟨y0, y1, y2⟩ := k4 e3 hq3
              refine j_iconst C (v := nI 0) (D 51 rfl) rfl ?_
              exact j_zret C P rfl (by first | exact Or.inl rfl | exact Or.inr rfl | assumption) (D 52 rfl) ⟨Nat.le_refl _, Nat.le_refl _⟩ (PX_e (e := e3) (by unfold pCur; rw [if_neg h9, hcv, if_neg (by decide)]; unfold pFor; rw [hq, bnd_r, hq2, bnd_r, hq3, bnd_l]) y0 y1 (((wF.tr (xF.mo (rPS0 t))).mo (tS01 t)).tr (y2.mo (rPS1 t))))
        · obtain ⟨e, hq⟩ := okB_eq h73
          obtain ⟨z0, z1, z2⟩ := k0 e hq
          refine j_iconst C (v := nI 0) (D 36 rfl) rfl ?_
          exact j_zret C P rfl (by first | exact Or.inl rfl | exact Or.inr rfl | assumption) (D 37 rfl) ⟨Nat.le_refl _, Nat.le_refl _⟩ (PX_e (e := e) (by unfold pCur; rw [if_neg h9, hcv, if_neg (by decide)]; unfold pFor; rw [hq, bnd_l]) z0 z1 ((bF.mo (tS01 t)).tr (z2.mo (rPS1 t))))
    · refine j_aload_n C (D 12 rfl) rfl ?_
      refine j_iconst C (v := nI 1) (D 13 rfl) rfl ?_
      refine j_puti C f_X4_198 (sT0 ht) rfl rfl (D 14 rfl) ?_
      refine j_goto C 60 (D 15 rfl) (by decide) ?_
      have hcv : crv (T i).1 = 1 := by unfold crv; rw [if_neg (b2_eq h7), if_pos (b2_ne h25)]
      have hlt := lt_sg hN hi1 (b2_ne h25) (by decide)
      have aF : Fx (tS0 t) I (up2 I t 2 (nI 1)) := Fx.up (Fx.rf _ _) (Or.inr (Or.inl ⟨rfl, by omega⟩))
      have hSa := SE_go hS aF (fun b k z => by unfold tS0 at z; omega) (by rw [up2_i (by omega)]; exact hS.2.1) hi1
      have hSb := SE_go hSa (adv_F (v := nI (i + 1))) (fun b k z => by have := z.1; omega) (up2_same _ _ _ _) hlt
      have bF := aF.tr ((adv_F (v := nI (i + 1))).mo (rPS0 t))
      refine j_aload_n C (D 28 rfl) rfl ?_
      refine j_callV C B k_X4_77 (rc_obj C (lit (kd := 4) (n := 8) rfl) rfl rfl) (c_advance _ _ hL hN hSa hlt) rfl rfl rfl rfl ⟨Nat.le_refl _, Nat.le_refl _⟩ (D 29 rfl) ?_
      rintro r w' ⟨rfl, rfl⟩
      refine j_pop C (D 30 rfl) rfl ?_
      refine j_aload_n C (D 31 rfl) rfl ?_
      refine j_iconst C (v := nI 1) (D 32 rfl) rfl ?_
      refine j_sipush C (v := nI 9999) (D 33 rfl) rfl ?_
      refine j_callV C B k_X4_100 (rc_obj C (lit (kd := 4) (n := 8) rfl) rfl rfl) (c_takeNumber _ _ hL hN hSb (lo := 1) (hx := 10000) (hi := nI 9999) (by omega) (by omega) (by decide)) rfl rfl rfl rfl ⟨Nat.le_refl _, Nat.le_refl _⟩ (D 34 rfl) ?_
      rintro r w' ⟨rfl, I2, rfl, k0, k1⟩
      refine j_if_ne C  78 (D 35 rfl) (by decide) (fun h73 => ?_) (fun h73 => ?_)
      · obtain ⟨⟨a, j⟩, hq⟩ := okB_ne h73
        obtain ⟨⟨z0, zv⟩, zF⟩ := k1 _ hq
        have z0 : I2 4 4 = nI j := z0
        have zv : I2 4 5 = nI a := zv
        obtain ⟨b1, b2, b3, b4⟩ := pNum_go hN (by omega) hq
        have wF : Fx (tS0 t) I (up2 I2 t 3 (nI a)) := Fx.up (bF.tr (zF.mo (rPS0 t))) (Or.inr (Or.inl ⟨rfl, by omega⟩))
        have hS2 : SE (up2 I2 t 3 (nI a)) R T N j := SE_go hS wF (fun b k z => by unfold tS0 at z; omega) (by rw [up2_i (by omega)]; exact z0) (by omega)
        refine j_aload_n C (D 38 rfl) rfl ?_
        refine j_aload_n C (D 39 rfl) rfl ?_
        refine j_geti C f_X4_90 (lit (kd := 4) (n := 8) rfl) rfl rfl (D 40 rfl) ?_
        rw [zv]
        refine j_puti C f_X4_207 (sT0 ht) rfl rfl (D 41 rfl) ?_
        refine j_aload_n C (D 42 rfl) rfl ?_
        refine j_gsgn C (i := 4) (by decide) s_X4_210 (D 43 rfl) ?_
        refine j_callV C B k_X4_63 (rc_obj C (lit (kd := 4) (n := 8) rfl) rfl rfl) (c_take _ _ hL hN hS2 (by decide)) rfl rfl rfl rfl ⟨Nat.le_refl _, Nat.le_refl _⟩ (D 44 rfl) ?_
        rintro r w' ⟨rfl, I3, rfl, k2, k3⟩
        refine j_if_eq C  106 (D 45 rfl) (by decide) (fun h93 => ?_) (fun h93 => ?_)
        · obtain ⟨e2, hq2⟩ := okB_eq h93
          obtain ⟨x0, x1, x2⟩ := k2 e2 hq2
          refine j_iconst C (v := nI 0) (D 51 rfl) rfl ?_
          exact j_zret C P rfl (by first | exact Or.inl rfl | exact Or.inr rfl | assumption) (D 52 rfl) ⟨Nat.le_refl _, Nat.le_refl _⟩ (PX_e (e := e2) (by unfold pCur; rw [if_neg h9, hcv, if_neg (by decide)]; unfold pFor; rw [hq, bnd_r, hq2, bnd_l]) x0 x1 ((wF.mo (tS01 t)).tr (x2.mo (rPS1 t))))
        · obtain ⟨j2, hq2⟩ := okB_ne h93
          obtain ⟨x0, xF⟩ := k3 j2 hq2
          have x0 : I3 4 4 = nI j2 := x0
          obtain ⟨d1, d2⟩ := pTake_go hN (by omega) (by omega) hq2
          have hS3 := SE_go hS2 xF (fun b k z => by have := z.1; omega) x0 (by omega)
          refine j_aload_n C (D 46 rfl) rfl ?_
          refine j_iconst C (v := nI 1) (D 47 rfl) rfl ?_
          refine j_ldc C (v := 99999) (D 48 rfl) n_X4_175 ?_
          refine j_callV C B k_X4_100 (rc_obj C (lit (kd := 4) (n := 8) rfl) rfl rfl) (c_takeNumber _ _ hL hN hS3 (lo := 1) (hx := 100000) (hi := 99999) (by omega) (by omega) (by decide)) rfl rfl rfl rfl ⟨Nat.le_refl _, Nat.le_refl _⟩ (D 49 rfl) ?_
          rintro r w' ⟨rfl, I4, rfl, k4, k5⟩
          refine j_if_ne C  108 (D 50 rfl) (by decide) (fun h103 => ?_) (fun h103 => ?_)
          · obtain ⟨⟨d, j3⟩, hq3⟩ := okB_ne h103
            obtain ⟨⟨y0, yv⟩, yF⟩ := k5 _ hq3
            have y0 : I4 4 4 = nI j3 := y0
            have yv : I4 4 5 = nI d := yv
            refine j_aload_n C (D 53 rfl) rfl ?_
            refine j_aload_n C (D 54 rfl) rfl ?_
            refine j_geti C f_X4_90 (lit (kd := 4) (n := 8) rfl) rfl rfl (D 55 rfl) ?_
            rw [yv]
            refine j_puti C f_X4_213 (sT0 ht) rfl rfl (D 56 rfl) ?_
            refine j_iconst C (v := nI 1) (D 57 rfl) rfl ?_
            exact j_zret C P rfl (by first | exact Or.inl rfl | exact Or.inr rfl | assumption) (D 58 rfl) ⟨Nat.le_refl _, Nat.le_refl _⟩ (PX_o (a := (va_up (va_up (va_up E 2 (nI 1)) 3 (nI a)) 4 (nI d), j3)) (by unfold pCur; rw [if_neg h9, hcv, if_neg (by decide)]; unfold pFor; rw [hq, bnd_r, hq2, bnd_r, hq3, bnd_r]) ⟨by rw [up2_i (by omega)]; exact y0, by
  refine ⟨?_, fun z => absurd z ?_, fun _ => ⟨?_, ?_⟩⟩
  · rw [up2_i (by omega), (xF.tr yF) _ _ (fun z => by have := z.1; omega), up2_i (by omega), zF _ _ (fun z => by have := z.1; omega), up2_i (by omega), up2_same]
    show _ = va_up (va_up (va_up E 2 (nI 1)) 3 (nI a)) 4 (nI d) 2
    rw [vu_ne _ _ (by omega), vu_ne _ _ (by omega), vu_same]
  · show ¬ va_up (va_up (va_up E 2 (nI 1)) 3 (nI a)) 4 (nI d) 2 = 3
    rw [vu_ne _ _ (by omega), vu_ne _ _ (by omega), vu_same]
    decide
  · rw [up2_i (by omega), (xF.tr yF) _ _ (fun z => by have := z.1; omega), up2_same]
    show _ = va_up (va_up (va_up E 2 (nI 1)) 3 (nI a)) 4 (nI d) 3
    rw [vu_ne _ _ (by omega), vu_same]
  · rw [up2_same]
    show _ = va_up (va_up (va_up E 2 (nI 1)) 3 (nI a)) 4 (nI d) 4
    rw [vu_same]⟩ (Fx.up (wF.tr ((xF.tr yF).mo (rPS0 t))) (Or.inr (Or.inl ⟨rfl, by omega⟩))))
          · obtain ⟨e3, hq3⟩ := okB_eq h103
            obtain ⟨y0, y1, y2⟩ := k4 e3 hq3
            refine j_iconst C (v := nI 0) (D 51 rfl) rfl ?_
            exact j_zret C P rfl (by first | exact Or.inl rfl | exact Or.inr rfl | assumption) (D 52 rfl) ⟨Nat.le_refl _, Nat.le_refl _⟩ (PX_e (e := e3) (by unfold pCur; rw [if_neg h9, hcv, if_neg (by decide)]; unfold pFor; rw [hq, bnd_r, hq2, bnd_r, hq3, bnd_l]) y0 y1 (((wF.tr (xF.mo (rPS0 t))).mo (tS01 t)).tr (y2.mo (rPS1 t))))
      · obtain ⟨e, hq⟩ := okB_eq h73
        obtain ⟨z0, z1, z2⟩ := k0 e hq
        refine j_iconst C (v := nI 0) (D 36 rfl) rfl ?_
        exact j_zret C P rfl (by first | exact Or.inl rfl | exact Or.inr rfl | assumption) (D 37 rfl) ⟨Nat.le_refl _, Nat.le_refl _⟩ (PX_e (e := e) (by unfold pCur; rw [if_neg h9, hcv, if_neg (by decide)]; unfold pFor; rw [hq, bnd_l]) z0 z1 ((bF.mo (tS01 t)).tr (z2.mo (rPS1 t))))
  · refine j_aload_n C (D 4 rfl) rfl ?_
    refine j_iconst C (v := nI 0) (D 5 rfl) rfl ?_
    refine j_puti C f_X4_198 (sT0 ht) rfl rfl (D 6 rfl) ?_
    refine j_goto C 60 (D 7 rfl) (by decide) ?_
    have hcv : crv (T i).1 = 0 := by unfold crv; rw [if_pos (b2_ne h7)]
    have hlt := lt_sg hN hi1 (b2_ne h7) (by decide)
    have aF : Fx (tS0 t) I (up2 I t 2 (nI 0)) := Fx.up (Fx.rf _ _) (Or.inr (Or.inl ⟨rfl, by omega⟩))
    have hSa := SE_go hS aF (fun b k z => by unfold tS0 at z; omega) (by rw [up2_i (by omega)]; exact hS.2.1) hi1
    have hSb := SE_go hSa (adv_F (v := nI (i + 1))) (fun b k z => by have := z.1; omega) (up2_same _ _ _ _) hlt
    have bF := aF.tr ((adv_F (v := nI (i + 1))).mo (rPS0 t))
    refine j_aload_n C (D 28 rfl) rfl ?_
    refine j_callV C B k_X4_77 (rc_obj C (lit (kd := 4) (n := 8) rfl) rfl rfl) (c_advance _ _ hL hN hSa hlt) rfl rfl rfl rfl ⟨Nat.le_refl _, Nat.le_refl _⟩ (D 29 rfl) ?_
    rintro r w' ⟨rfl, rfl⟩
    refine j_pop C (D 30 rfl) rfl ?_
    refine j_aload_n C (D 31 rfl) rfl ?_
    refine j_iconst C (v := nI 1) (D 32 rfl) rfl ?_
    refine j_sipush C (v := nI 9999) (D 33 rfl) rfl ?_
    refine j_callV C B k_X4_100 (rc_obj C (lit (kd := 4) (n := 8) rfl) rfl rfl) (c_takeNumber _ _ hL hN hSb (lo := 1) (hx := 10000) (hi := nI 9999) (by omega) (by omega) (by decide)) rfl rfl rfl rfl ⟨Nat.le_refl _, Nat.le_refl _⟩ (D 34 rfl) ?_
    rintro r w' ⟨rfl, I2, rfl, k0, k1⟩
    refine j_if_ne C  78 (D 35 rfl) (by decide) (fun h73 => ?_) (fun h73 => ?_)
    · obtain ⟨⟨a, j⟩, hq⟩ := okB_ne h73
      obtain ⟨⟨z0, zv⟩, zF⟩ := k1 _ hq
      have z0 : I2 4 4 = nI j := z0
      have zv : I2 4 5 = nI a := zv
      obtain ⟨b1, b2, b3, b4⟩ := pNum_go hN (by omega) hq
      have wF : Fx (tS0 t) I (up2 I2 t 3 (nI a)) := Fx.up (bF.tr (zF.mo (rPS0 t))) (Or.inr (Or.inl ⟨rfl, by omega⟩))
      have hS2 : SE (up2 I2 t 3 (nI a)) R T N j := SE_go hS wF (fun b k z => by unfold tS0 at z; omega) (by rw [up2_i (by omega)]; exact z0) (by omega)
      refine j_aload_n C (D 38 rfl) rfl ?_
      refine j_aload_n C (D 39 rfl) rfl ?_
      refine j_geti C f_X4_90 (lit (kd := 4) (n := 8) rfl) rfl rfl (D 40 rfl) ?_
      rw [zv]
      refine j_puti C f_X4_207 (sT0 ht) rfl rfl (D 41 rfl) ?_
      refine j_aload_n C (D 42 rfl) rfl ?_
      refine j_gsgn C (i := 4) (by decide) s_X4_210 (D 43 rfl) ?_
      refine j_callV C B k_X4_63 (rc_obj C (lit (kd := 4) (n := 8) rfl) rfl rfl) (c_take _ _ hL hN hS2 (by decide)) rfl rfl rfl rfl ⟨Nat.le_refl _, Nat.le_refl _⟩ (D 44 rfl) ?_
      rintro r w' ⟨rfl, I3, rfl, k2, k3⟩
      refine j_if_eq C  106 (D 45 rfl) (by decide) (fun h93 => ?_) (fun h93 => ?_)
      · obtain ⟨e2, hq2⟩ := okB_eq h93
        obtain ⟨x0, x1, x2⟩ := k2 e2 hq2
        refine j_iconst C (v := nI 0) (D 51 rfl) rfl ?_
        exact j_zret C P rfl (by first | exact Or.inl rfl | exact Or.inr rfl | assumption) (D 52 rfl) ⟨Nat.le_refl _, Nat.le_refl _⟩ (PX_e (e := e2) (by unfold pCur; rw [if_neg h9, hcv, if_neg (by decide)]; unfold pFor; rw [hq, bnd_r, hq2, bnd_l]) x0 x1 ((wF.mo (tS01 t)).tr (x2.mo (rPS1 t))))
      · obtain ⟨j2, hq2⟩ := okB_ne h93
        obtain ⟨x0, xF⟩ := k3 j2 hq2
        have x0 : I3 4 4 = nI j2 := x0
        obtain ⟨d1, d2⟩ := pTake_go hN (by omega) (by omega) hq2
        have hS3 := SE_go hS2 xF (fun b k z => by have := z.1; omega) x0 (by omega)
        refine j_aload_n C (D 46 rfl) rfl ?_
        refine j_iconst C (v := nI 1) (D 47 rfl) rfl ?_
        refine j_ldc C (v := 99999) (D 48 rfl) n_X4_175 ?_
        refine j_callV C B k_X4_100 (rc_obj C (lit (kd := 4) (n := 8) rfl) rfl rfl) (c_takeNumber _ _ hL hN hS3 (lo := 1) (hx := 100000) (hi := 99999) (by omega) (by omega) (by decide)) rfl rfl rfl rfl ⟨Nat.le_refl _, Nat.le_refl _⟩ (D 49 rfl) ?_
        rintro r w' ⟨rfl, I4, rfl, k4, k5⟩
        refine j_if_ne C  108 (D 50 rfl) (by decide) (fun h103 => ?_) (fun h103 => ?_)
        · obtain ⟨⟨d, j3⟩, hq3⟩ := okB_ne h103
          obtain ⟨⟨y0, yv⟩, yF⟩ := k5 _ hq3
          have y0 : I4 4 4 = nI j3 := y0
          have yv : I4 4 5 = nI d := yv
          refine j_aload_n C (D 53 rfl) rfl ?_
          refine j_aload_n C (D 54 rfl) rfl ?_
          refine j_geti C f_X4_90 (lit (kd := 4) (n := 8) rfl) rfl rfl (D 55 rfl) ?_
          rw [yv]
          refine j_puti C f_X4_213 (sT0 ht) rfl rfl (D 56 rfl) ?_
          refine j_iconst C (v := nI 1) (D 57 rfl) rfl ?_
          exact j_zret C P rfl (by first | exact Or.inl rfl | exact Or.inr rfl | assumption) (D 58 rfl) ⟨Nat.le_refl _, Nat.le_refl _⟩ (PX_o (a := (va_up (va_up (va_up E 2 (nI 0)) 3 (nI a)) 4 (nI d), j3)) (by unfold pCur; rw [if_neg h9, hcv, if_neg (by decide)]; unfold pFor; rw [hq, bnd_r, hq2, bnd_r, hq3, bnd_r]) ⟨by rw [up2_i (by omega)]; exact y0, by
  refine ⟨?_, fun z => absurd z ?_, fun _ => ⟨?_, ?_⟩⟩
  · rw [up2_i (by omega), (xF.tr yF) _ _ (fun z => by have := z.1; omega), up2_i (by omega), zF _ _ (fun z => by have := z.1; omega), up2_i (by omega), up2_same]
    show _ = va_up (va_up (va_up E 2 (nI 0)) 3 (nI a)) 4 (nI d) 2
    rw [vu_ne _ _ (by omega), vu_ne _ _ (by omega), vu_same]
  · show ¬ va_up (va_up (va_up E 2 (nI 0)) 3 (nI a)) 4 (nI d) 2 = 3
    rw [vu_ne _ _ (by omega), vu_ne _ _ (by omega), vu_same]
    decide
  · rw [up2_i (by omega), (xF.tr yF) _ _ (fun z => by have := z.1; omega), up2_same]
    show _ = va_up (va_up (va_up E 2 (nI 0)) 3 (nI a)) 4 (nI d) 3
    rw [vu_ne _ _ (by omega), vu_same]
  · rw [up2_same]
    show _ = va_up (va_up (va_up E 2 (nI 0)) 3 (nI a)) 4 (nI d) 4
    rw [vu_same]⟩ (Fx.up (wF.tr ((xF.tr yF).mo (rPS0 t))) (Or.inr (Or.inl ⟨rfl, by omega⟩))))
        · obtain ⟨e3, hq3⟩ := okB_eq h103
          obtain ⟨y0, y1, y2⟩ := k4 e3 hq3
          refine j_iconst C (v := nI 0) (D 51 rfl) rfl ?_
          exact j_zret C P rfl (by first | exact Or.inl rfl | exact Or.inr rfl | assumption) (D 52 rfl) ⟨Nat.le_refl _, Nat.le_refl _⟩ (PX_e (e := e3) (by unfold pCur; rw [if_neg h9, hcv, if_neg (by decide)]; unfold pFor; rw [hq, bnd_r, hq2, bnd_r, hq3, bnd_l]) y0 y1 (((wF.tr (xF.mo (rPS0 t))).mo (tS01 t)).tr (y2.mo (rPS1 t))))
    · obtain ⟨e, hq⟩ := okB_eq h73
      obtain ⟨z0, z1, z2⟩ := k0 e hq
      refine j_iconst C (v := nI 0) (D 36 rfl) rfl ?_
      exact j_zret C P rfl (by first | exact Or.inl rfl | exact Or.inr rfl | assumption) (D 37 rfl) ⟨Nat.le_refl _, Nat.le_refl _⟩ (PX_e (e := e) (by unfold pCur; rw [if_neg h9, hcv, if_neg (by decide)]; unfold pFor; rw [hq, bnd_l]) z0 z1 ((bF.mo (tS01 t)).tr (z2.mo (rPS1 t))))

/-! EVENTS as the model reads them -/
def tbP (base b j : Nat) : Prop := nP b j ∨ (b = 180 ∧ ((base + 3 ≤ j ∧ j ≤ base + 4) ∨ (base + 6 ≤ j ∧ j < base + 22)))
theorem nPt (base b j : Nat) (h : nP b j) : tbP base b j := Or.inl h
theorem aPt (base b j : Nat) (h : aP b j) : tbP base b j := Or.inl (aPn b j h)
def TBm (I : Nat → Nat → Int32) (base n : Nat) (E : Nat → Int32) : Prop := ∀ k, k < n → I 180 (base + 6 + 2 * k) = E (6 + 2 * k) ∧ I 180 (base + 6 + 2 * k + 1) = E (6 + 2 * k + 1)
theorem TBm_n {I I' : Nat → Nat → Int32} {base n : Nat} {E : Nat → Int32} (h : TBm I base n E) (hF : Fx nP I I') : TBm I' base n E := fun k hk => by
  rw [hF _ _ (fun z => by unfold nP at z; omega), hF _ _ (fun z => by unfold nP at z; omega)]; exact h k hk
def tmO (f : Nat → Int32) (n base : Nat) (x : (Nat × (Nat → Int32)) × Nat) (I' : Nat → Nat → Int32) : Prop := MS I' f n x.2 ∧ TBm I' base x.1.1 x.1.2 ∧ I' 180 (base + 3) = nI x.1.1 ∧ I' 180 (base + 4) = -1
theorem win_T {lo v : Nat} (hlo : lo ≤ 100000) : ((nI lo).toInt64.toInt ≤ (nI (min 9999999 v)).toInt64.toInt ∧ (nI (min 9999999 v)).toInt64.toInt ≤ (99999 : Int64).toInt) ↔ (lo ≤ v ∧ v < 100000) := by
  rw [i_l, i_l, nI_int (by omega), nI_int (by omega), show (99999 : Int64).toInt = 99999 by decide]
  omega
theorem MS_180 {I I' : Nat → Nat → Int32} {f : Nat → Int32} {n i : Nat} (h : MS I f n i) (hF : Fx (fun b _ => b = 180) I I') : MS I' f n i := MS_go h hF (fun b j z => by omega)
theorem lst {lw : Nat} (h : lw ≤ 100000) : nI lw - nI 1 + nI 1 = nI lw := by
  rw [i_eq]
  have e : (nI lw - nI 1).toInt = (lw : Int) - 1 := by rw [i_sub (by rw [nI_int (by omega), nI_int (by omega)]; omega) (by rw [nI_int (by omega), nI_int (by omega)]; omega), nI_int (by omega), nI_int (by omega)]; rfl
  rw [i_add (by rw [e, nI_int (by omega)]; omega) (by rw [e, nI_int (by omega)]; omega), e, nI_int (by omega), nI_int (by omega)]
  omega
theorem nx1 {v : Nat} : nI (v + 1) - nI 1 = nI v := by rw [pk_sub (by omega)]; rfl
set_option maxRecDepth 20000 in
theorem d_readTable (l : Launch) (G : GT) {I : Nat → Nat → Int32} {L : Nat → Nat → Int64} {R : Nat → Nat → Option Nat} (hL : Lay R) {f : Nat → Int32} {n N i base : Nat} (hb : BY f n) (hN : TN (tok f n) N) (hlt : i < N) (hS : MS I f n (i + 1)) (hg : I 172 34 = nI 0) (hbs : base + 22 ≤ 220) {E : Nat → Int32} : Mt l G mX12_readTable (4) 0 0 [.ref (ra G 172), .int (nI base)] (wd I L R) (MX I L R (tbP base) (tmO f n base) (pTab (tok f n) 9 0 0 0 E i)) := by
  refine mt_of (own := RX12) (by decide) rfl rfl (fun Z C P B => ?_)
  have D := @dc_of _ _ dX12_readTable
  have hnn := hb.1
  have hN1 := hN.1
  have L7 : ∀ ff n1 lw lx (E1 : Nat → Int32) (i1 : Nat) (I1 : Nat → Nat → Int32), n1 + ff = 9 → i1 < N → MS I1 f n (i1 + 1) → I1 172 34 = nI 0 → I1 172 35 = I 172 35 → TBm I1 base n1 E1 → TBI E1 n1 lw lx → Fx (tbP base) I I1 → pTab (tok f n) ff n1 lw lx E1 i1 = pTab (tok f n) 9 0 0 0 E i → J Z (0, 0) 7 [some (.ref (ra G 172)), some (.int (nI base)), some (.int (nI n1)), some (.int (nI lw - nI 1)), some (.int (nI lx))] [] (wd I1 L R) := by
    intro ff
    induction ff with
    | zero =>
      intro n1 lw lx E1 i1 I1 hf _ _ _ _ _ hI
      exact absurd hI.1 (by omega)
    | succ ff ih =>
      intro n1 lw lx E1 i1 I1 hf hi2 hS1 hg1 hz35 hB hI hF he
      have hn8 := hI.1
      have hlw := hI.2.1
      have hlx : lx ≤ 100000 := by have := hI.2.2.1; omega
      refine j_aload_n C (D 6 rfl) rfl ?_
      refine j_cVp C B k_X12_106 (rc_obj C (lit (kd := 12) (n := 48) rfl) rfl rfl) (d_goodT _ _ hL hg1) rfl rfl rfl rfl ⟨Nat.le_refl _, Nat.le_refl _⟩ (D 7 rfl) ?_
      refine j_if_eq C  31 (D 8 rfl) (by decide) (fun h11 => absurd h11 (by decide)) (fun h11 => ?_)
      refine j_aload_n C (D 9 rfl) rfl ?_
      refine j_geti C f_X12_123 (lit (kd := 12) (n := 48) rfl) rfl rfl (D 10 rfl) ?_
      refine j_iconst C (v := nI 2) (D 11 rfl) rfl ?_
      refine j_icmp_eq C  31 (D 12 rfl) (by decide) (fun h19 => ?_) (fun h19 => ?_)
      · have h39 : (tok f n (i1 + 1)).1 = 39 := (MS_2 hS1).mp h19
        have h39q := tok_39.mp h39
        refine j_aload_n C (D 18 rfl) rfl ?_
        refine j_cVp C B k_X12_106 (rc_obj C (lit (kd := 12) (n := 48) rfl) rfl rfl) (d_goodT _ _ hL hg1) rfl rfl rfl rfl ⟨Nat.le_refl _, Nat.le_refl _⟩ (D 19 rfl) ?_
        refine j_if_eq C  65 (D 20 rfl) (by decide) (fun h35 => absurd h35 (by decide)) (fun h35 => ?_)
        refine j_aload_n C (D 21 rfl) rfl ?_
        refine j_geti C f_X12_134 (lit (kd := 12) (n := 48) rfl) rfl rfl (D 22 rfl) ?_
        rw [((hS1.2.2.2 h39q.1).2.2.1 h39q.2).2]
        refine j_i2l C (D 23 rfl) ?_
        refine j_iload_n C (D 24 rfl) rfl ?_
        refine j_iconst C (v := nI 1) (D 25 rfl) rfl ?_
        refine j_iadd C (D 26 rfl) ?_
        rw [lst hlw]
        refine j_i2l C (D 27 rfl) ?_
        refine j_ldc2_w C (v := 99999) (D 28 rfl) n_X12_175 ?_
        refine j_cSp C B k_X12_99 (d_in _ _ _ _ _ _) rfl rfl rfl rfl ⟨Nat.le_refl _, Nat.le_refl _⟩ (D 29 rfl) ?_
        refine j_if_ne C  65 (D 30 rfl) (by decide) (fun h53 => ?_) (fun h53 => ?_)
        · have hqn : pNum (tok f n) (i1 + 1) lw 100000 = .inr ((tok f n (i1 + 1)).2.2, i1 + 1 + 1) := by unfold pNum; rw [if_pos h39, if_pos (by rw [tok_v h39]; exact (win_T hlw).mp (b2_ne h53))]
          refine j_iload_n C (D 36 rfl) rfl ?_
          refine j_bipush C (v := nI 8) (D 37 rfl) rfl ?_
          refine j_icmp_ne C  80 (D 38 rfl) (by decide) (fun h68 => ?_) (fun h68 => ?_)
          · have hn8e : ¬ n1 = 8 := fun z => h68 (by rw [z])
            refine j_aload_n C (D 44 rfl) rfl ?_
            refine j_cVp C B k_X12_106 (rc_obj C (lit (kd := 12) (n := 48) rfl) rfl rfl) (d_goodT _ _ hL hg1) rfl rfl rfl rfl ⟨Nat.le_refl _, Nat.le_refl _⟩ (D 45 rfl) ?_
            refine j_if_ne C  88 (D 46 rfl) (by decide) (fun h84 => ?_) (fun h84 => absurd h84 (by decide))
            refine j_aload_n C (D 48 rfl) rfl ?_
            refine j_iload_n C (D 49 rfl) rfl ?_
            refine j_iconst C (v := nI 1) (D 50 rfl) rfl ?_
            refine j_iadd C (D 51 rfl) ?_
            rw [lst hlw]
            refine j_ldc C (v := 99999) (D 52 rfl) n_X12_177 ?_
            refine j_callV C B k_X12_178 (rc_obj C (lit (kd := 12) (n := 48) rfl) rfl rfl) (d_number _ _ hL hb hS1 hg1 (hx := 100000) (hi := 99999) hlw (by omega) (by decide)) rfl rfl rfl rfl ⟨Nat.le_refl _, Nat.le_refl _⟩ (D 53 rfl) ?_
            rintro r w' ⟨I2, v2, rfl, rfl, F2, k0, k1⟩
            obtain ⟨hv, g0, g1, g2⟩ := k1 _ hqn
            have hv : v2 = nI (tok f n (i1 + 1)).2.2 := hv
            subst hv
            generalize hvv : (tok f n (i1 + 1)).2.2 = v at *
            obtain ⟨b1, b2, b3, b4⟩ := pNum_go hN hi2 hqn
            refine j_istore_n C (D 54 rfl) rfl ?_
            refine j_aload_n C (D 55 rfl) rfl ?_
            refine j_bipush C (v := nI 58) (D 56 rfl) rfl ?_
            refine j_callV C B k_X12_181 (rc_obj C (lit (kd := 12) (n := 48) rfl) rfl rfl) (d_passesByte _ _ hL hb g2 g0 (s := 28) (v := 58) (by decide) (by decide) (by decide) (by decide)) rfl rfl rfl rfl ⟨Nat.le_refl _, Nat.le_refl _⟩ (D 57 rfl) ?_
            rintro r w' ⟨rfl, I3, rfl, F3, k2, k3⟩
            obtain ⟨e, hqp⟩ | ⟨j2, hqp⟩ := rs_c (pTake (tok f n) (i1 + 1 + 1) 28)
            · obtain ⟨e0, e1⟩ := k2 e hqp
              have hdp : ¬ I3 172 34 = 0 := dd_of e0 (pTake_er hqp)
              refine j_aload_n C (D 58 rfl) rfl ?_
              refine j_iload C (D 59 rfl) rfl ?_
              refine j_sipush C (v := nI 2000) (D 60 rfl) rfl ?_
              refine j_callV C B k_X12_178 (rc_obj C (lit (kd := 12) (n := 48) rfl) rfl rfl) (d_numberF _ _ hL hdp _ _) rfl rfl rfl rfl ⟨Nat.le_refl _, Nat.le_refl _⟩ (D 61 rfl) ?_
              rintro r w' ⟨v9, rfl, rfl⟩
              refine j_istore C (D 62 rfl) rfl ?_
              refine j_aload_n C (D 63 rfl) rfl ?_
              refine j_cVp C B k_X12_106 (rc_obj C (lit (kd := 12) (n := 48) rfl) rfl rfl) (d_goodF _ _ hL hdp) rfl rfl rfl rfl ⟨Nat.le_refl _, Nat.le_refl _⟩ (D 64 rfl) ?_
              refine j_if_ne C  123 (D 65 rfl) (by decide) (fun h119 => absurd h119 (fun z => z rfl)) (fun h119 => ?_)
              exact j_vret C P rfl (D 66 rfl) ⟨Nat.le_refl _, Nat.le_refl _⟩ (MX_e (e := e) (by rw [← he, pTab]; unfold pTwo; rw [hqn, bnd_r, if_neg hn8e, hqp, bnd_l, bnd_l]) ((hF.tr (F2.mo (nPt base))).tr (F3.mo (nPt base))) e0 e1)
            · obtain ⟨p0, p1, p2⟩ := k3 j2 hqp
              have p2 : MS I3 f n j2 := p2
              obtain ⟨c1, c2⟩ := pTake_go hN (by omega) (by omega) hqp
              refine j_aload_n C (D 58 rfl) rfl ?_
              refine j_iload C (D 59 rfl) rfl ?_
              refine j_sipush C (v := nI 2000) (D 60 rfl) rfl ?_
              refine j_callV C B k_X12_178 (rc_obj C (lit (kd := 12) (n := 48) rfl) rfl rfl) (d_number _ _ hL hb p2 p0 (hx := 2001) (hi := nI 2000) hlx (by omega) (by decide)) rfl rfl rfl rfl ⟨Nat.le_refl _, Nat.le_refl _⟩ (D 61 rfl) ?_
              rintro r w' ⟨I4, v3, rfl, rfl, F4, k4, k5⟩
              obtain ⟨e, hqw⟩ | ⟨⟨w, j3⟩, hqw⟩ := rs_c (pNum (tok f n) j2 lx 2001)
              · obtain ⟨e0, e1⟩ := k4 e hqw
                have hdw : ¬ I4 172 34 = 0 := dd_of e0 (pNum_er hqw)
                refine j_istore C (D 62 rfl) rfl ?_
                refine j_aload_n C (D 63 rfl) rfl ?_
                refine j_cVp C B k_X12_106 (rc_obj C (lit (kd := 12) (n := 48) rfl) rfl rfl) (d_goodF _ _ hL hdw) rfl rfl rfl rfl ⟨Nat.le_refl _, Nat.le_refl _⟩ (D 64 rfl) ?_
                refine j_if_ne C  123 (D 65 rfl) (by decide) (fun h119 => absurd h119 (fun z => z rfl)) (fun h119 => ?_)
                exact j_vret C P rfl (D 66 rfl) ⟨Nat.le_refl _, Nat.le_refl _⟩ (MX_e (e := e) (by rw [← he, pTab]; unfold pTwo; rw [hqn, bnd_r, if_neg hn8e, hqp, bnd_r, hqw, bnd_l, bnd_l]) (((hF.tr (F2.mo (nPt base))).tr (F3.mo (nPt base))).tr (F4.mo (nPt base))) e0 e1)
              · obtain ⟨hw3, w1, w2, w3⟩ := k5 _ hqw
                have hw3 : v3 = nI w := hw3
                subst hw3
                have w3 : MS I4 f n j3 := w3
                obtain ⟨x1, x2, x3, x4⟩ := pNum_go hN (by omega) hqw
                have FF : Fx nP I1 I4 := F2.tr (F3.tr F4)
                have gF : Fx (tbP base) I (up2 (up2 I4 180 (base + 6 + 2 * n1) (nI v)) 180 (base + 6 + 2 * n1 + 1) (nI w)) := Fx.up (Fx.up (hF.tr (FF.mo (nPt base))) (Or.inr ⟨rfl, by omega⟩)) (Or.inr ⟨rfl, by omega⟩)
                have gS : MS (up2 (up2 I4 180 (base + 6 + 2 * n1) (nI v)) 180 (base + 6 + 2 * n1 + 1) (nI w)) f n j3 := MS_180 w3 (Fx.up (Fx.up (Fx.rf _ _) rfl) rfl)
                have gg : up2 (up2 I4 180 (base + 6 + 2 * n1) (nI v)) 180 (base + 6 + 2 * n1 + 1) (nI w) 172 34 = nI 0 := by rw [up2_i (by omega), up2_i (by omega)]; exact w1
                have g35 : up2 (up2 I4 180 (base + 6 + 2 * n1) (nI v)) 180 (base + 6 + 2 * n1 + 1) (nI w) 172 35 = I 172 35 := by rw [up2_i (by omega), up2_i (by omega), w2, p1, g1]; exact hz35
                have gB : TBm (up2 (up2 I4 180 (base + 6 + 2 * n1) (nI v)) 180 (base + 6 + 2 * n1 + 1) (nI w)) base (n1 + 1) (tb2 E1 n1 v w) := fun k hk => by
                  by_cases q : k = n1
                  · rw [q, up2_same, up2_i (by omega), up2_same, tb2_at.1, tb2_at.2]; exact ⟨rfl, rfl⟩
                  · rw [up2_i (by omega), up2_i (by omega), up2_i (by omega), up2_i (by omega), (tb2_lo (by omega)).1, (tb2_lo (by omega)).2]; exact TBm_n hB FF k (by omega)
                refine j_istore C (D 62 rfl) rfl ?_
                refine j_aload_n C (D 63 rfl) rfl ?_
                refine j_cVp C B k_X12_106 (rc_obj C (lit (kd := 12) (n := 48) rfl) rfl rfl) (d_goodT _ _ hL w1) rfl rfl rfl rfl ⟨Nat.le_refl _, Nat.le_refl _⟩ (D 64 rfl) ?_
                refine j_if_ne C  123 (D 65 rfl) (by decide) (fun h119 => ?_) (fun h119 => absurd h119 (by decide))
                refine j_aload_n C (D 67 rfl) rfl ?_
                refine j_getr C f_X12_31 (lit (kd := 12) (n := 48) rfl) rfl rfl (hL _ _ _ rfl) (D 68 rfl) ?_
                refine j_iload_n C (D 69 rfl) rfl ?_
                refine j_bipush C (v := nI 6) (D 70 rfl) rfl ?_
                refine j_iadd C (D 71 rfl) ?_
                refine j_iconst C (v := nI 2) (D 72 rfl) rfl ?_
                refine j_iload_n C (D 73 rfl) rfl ?_
                refine j_imul C (D 74 rfl) ?_
                refine j_iadd C (D 75 rfl) ?_
                rw [nI_add, pk_mul, nI_add]
                refine j_iload_n C (D 76 rfl) rfl ?_
                refine j_iast C (lit (kd := 20) (n := 220) rfl) (ix_n (by omega) (by decide)) (D 77 rfl) ?_
                refine j_aload_n C (D 78 rfl) rfl ?_
                refine j_getr C f_X12_31 (lit (kd := 12) (n := 48) rfl) rfl rfl (hL _ _ _ rfl) (D 79 rfl) ?_
                refine j_iload_n C (D 80 rfl) rfl ?_
                refine j_bipush C (v := nI 6) (D 81 rfl) rfl ?_
                refine j_iadd C (D 82 rfl) ?_
                refine j_iconst C (v := nI 2) (D 83 rfl) rfl ?_
                refine j_iload_n C (D 84 rfl) rfl ?_
                refine j_imul C (D 85 rfl) ?_
                refine j_iadd C (D 86 rfl) ?_
                refine j_iconst C (v := nI 1) (D 87 rfl) rfl ?_
                refine j_iadd C (D 88 rfl) ?_
                rw [nI_add, pk_mul, nI_add, nI_add]
                refine j_iload C (D 89 rfl) rfl ?_
                refine j_iast C (lit (kd := 20) (n := 220) rfl) (ix_n (by omega) (by decide)) (D 90 rfl) ?_
                first | refine j_iinc1 C (D 91 rfl) rfl rfl ?_ | refine j_iinc C (D 91 rfl) rfl rfl rfl ?_
                refine j_aload_n C (D 92 rfl) rfl ?_
                refine j_bipush C (v := nI 44) (D 93 rfl) rfl ?_
                refine j_callV C B k_X12_172 (rc_obj C (lit (kd := 12) (n := 48) rfl) rfl rfl) (d_eatsByte _ _ hL hb gS gg (s := 29) (v := 44) (by decide) (by decide) (by decide) (by decide)) rfl rfl rfl rfl ⟨Nat.le_refl _, Nat.le_refl _⟩ (D 94 rfl) ?_
                rintro r w' ⟨rfl, I5, rfl, hF5, y1, y2⟩
                refine j_if_ne C  7 (D 95 rfl) (by decide) (fun h163 => ?_) (fun h163 => ?_)
                · have h29 : (tok f n j3).1 = 29 := b2_ne h163
                  rw [show nI v = nI (v + 1) - nI 1 from nx1.symm]
                  exact ih (n1 + 1) (v + 1) w (tb2 E1 n1 v w) j3 I5 (by omega) (lt_sg hN (by omega) h29 (by decide)) (y1 h29) (by rw [hF5 _ _ (fun z => by unfold aP at z; omega)]; exact gg) (by rw [hF5 _ _ (fun z => by unfold aP at z; omega)]; exact g35) (TBm_n gB (hF5.mo aPn)) (TBI_s hI (by omega) ⟨b3, b4⟩ ⟨x3, x4⟩) (gF.tr (hF5.mo (aPt base))) (by rw [← he, pTab]; unfold pTwo; rw [hqn, bnd_r, if_neg hn8e, hqp, bnd_r, hqw, bnd_r, bnd_r, if_pos h29])
                · refine j_aload_n C (D 96 rfl) rfl ?_
                  refine j_getr C f_X12_31 (lit (kd := 12) (n := 48) rfl) rfl rfl (hL _ _ _ rfl) (D 97 rfl) ?_
                  refine j_iload_n C (D 98 rfl) rfl ?_
                  refine j_iconst C (v := nI 3) (D 99 rfl) rfl ?_
                  refine j_iadd C (D 100 rfl) ?_
                  rw [nI_add]
                  refine j_iload_n C (D 101 rfl) rfl ?_
                  refine j_iast C (lit (kd := 20) (n := 220) rfl) (ix_n (by omega) (by decide)) (D 102 rfl) ?_
                  refine j_aload_n C (D 103 rfl) rfl ?_
                  refine j_getr C f_X12_31 (lit (kd := 12) (n := 48) rfl) rfl rfl (hL _ _ _ rfl) (D 104 rfl) ?_
                  refine j_iload_n C (D 105 rfl) rfl ?_
                  refine j_iconst C (v := nI 4) (D 106 rfl) rfl ?_
                  refine j_iadd C (D 107 rfl) ?_
                  rw [nI_add]
                  refine j_iconst C (v := (-1)) (D 108 rfl) (by decide) ?_
                  refine j_iast C (lit (kd := 20) (n := 220) rfl) (ix_n (by omega) (by decide)) (D 109 rfl) ?_
                  exact j_vret C P rfl (D 110 rfl) ⟨Nat.le_refl _, Nat.le_refl _⟩ (MX_o (a := ((n1 + 1, tb2 E1 n1 v w), j3)) (by rw [← he, pTab]; unfold pTwo; rw [hqn, bnd_r, if_neg hn8e, hqp, bnd_r, hqw, bnd_r, bnd_r, if_neg (b2_eq h163)]) (Fx.up (Fx.up (gF.tr (hF5.mo (aPt base))) (Or.inr ⟨rfl, by omega⟩)) (Or.inr ⟨rfl, by omega⟩)) (by rw [up2_i (by omega), up2_i (by omega), hF5 _ _ (fun z => by unfold aP at z; omega)]; exact gg) (by rw [up2_i (by omega), up2_i (by omega), hF5 _ _ (fun z => by unfold aP at z; omega)]; exact g35) ⟨MS_180 (y2 (b2_eq h163)) (Fx.up (Fx.up (Fx.rf _ _) rfl) rfl), fun k hk => by
  rw [up2_i (by omega), up2_i (by omega), up2_i (by omega), up2_i (by omega), hF5 _ _ (fun z => by unfold aP at z; omega), hF5 _ _ (fun z => by unfold aP at z; omega)]
  exact gB k hk, by rw [up2_i (by omega), up2_same], up2_same _ _ _ _⟩)
          · have hn8e : n1 = 8 := nI_inj (by omega) (by omega) h68
            refine j_aload_n C (D 39 rfl) rfl ?_
            refine j_iconst C (v := nI 4) (D 40 rfl) rfl ?_
            refine j_aload_n C (D 41 rfl) rfl ?_
            refine j_geti C f_X12_120 (lit (kd := 12) (n := 48) rfl) rfl rfl (D 42 rfl) ?_
            rw [hS1.2.1]
            refine j_callV C B k_X12_168 (rc_obj C (lit (kd := 12) (n := 48) rfl) rfl rfl) (d_errsT _ _ hL hg1 _ _) rfl rfl rfl rfl ⟨Nat.le_refl _, Nat.le_refl _⟩ (D 43 rfl) ?_
            rintro r w' ⟨rfl, rfl⟩
            have hdd : ¬ up2 (up2 I1 172 34 (nI 4)) 172 35 (nI (spo f n (i1 + 1))) 172 34 = 0 := dd_of (k := 4) (by rw [up2_i (by omega), up2_same]) (by omega)
            refine j_aload_n C (D 44 rfl) rfl ?_
            refine j_cVp C B k_X12_106 (rc_obj C (lit (kd := 12) (n := 48) rfl) rfl rfl) (d_goodF _ _ hL hdd) rfl rfl rfl rfl ⟨Nat.le_refl _, Nat.le_refl _⟩ (D 45 rfl) ?_
            refine j_if_ne C  88 (D 46 rfl) (by decide) (fun h84 => absurd h84 (fun z => z rfl)) (fun h84 => ?_)
            exact j_vret C P rfl (D 47 rfl) ⟨Nat.le_refl _, Nat.le_refl _⟩ (MX_e (e := fl (tok f n) (i1 + 1) 4) (by rw [← he, pTab]; unfold pTwo; rw [hqn, bnd_r, if_pos hn8e, bnd_l]) (Fx.up (Fx.up hF (Or.inl ⟨rfl, by omega⟩)) (Or.inl ⟨rfl, by omega⟩)) (by rw [up2_i (by omega), up2_same]; rfl) (by rw [up2_same]; show _ = nI (tok f n (i1 + 1)).2.1; rw [tok_2]))
        · have hwn : ¬ (lw ≤ (tok f n (i1 + 1)).2.2 ∧ (tok f n (i1 + 1)).2.2 < 100000) := fun z => b2_eq h53 ((win_T hlw).mpr (by rw [← tok_v h39]; exact z))
          refine j_aload_n C (D 31 rfl) rfl ?_
          refine j_iconst C (v := nI 2) (D 32 rfl) rfl ?_
          refine j_aload_n C (D 33 rfl) rfl ?_
          refine j_geti C f_X12_120 (lit (kd := 12) (n := 48) rfl) rfl rfl (D 34 rfl) ?_
          rw [hS1.2.1]
          refine j_callV C B k_X12_168 (rc_obj C (lit (kd := 12) (n := 48) rfl) rfl rfl) (d_errsT _ _ hL hg1 _ _) rfl rfl rfl rfl ⟨Nat.le_refl _, Nat.le_refl _⟩ (D 35 rfl) ?_
          rintro r w' ⟨rfl, rfl⟩
          have hdd : ¬ up2 (up2 I1 172 34 (nI 2)) 172 35 (nI (spo f n (i1 + 1))) 172 34 = 0 := dd_of (k := 2) (by rw [up2_i (by omega), up2_same]) (by omega)
          refine j_iload_n C (D 36 rfl) rfl ?_
          refine j_bipush C (v := nI 8) (D 37 rfl) rfl ?_
          refine j_icmp_ne C  80 (D 38 rfl) (by decide) (fun h68 => ?_) (fun h68 => ?_)
          · have hn8e : ¬ n1 = 8 := fun z => h68 (by rw [z])
            refine j_aload_n C (D 44 rfl) rfl ?_
            refine j_cVp C B k_X12_106 (rc_obj C (lit (kd := 12) (n := 48) rfl) rfl rfl) (d_goodF _ _ hL hdd) rfl rfl rfl rfl ⟨Nat.le_refl _, Nat.le_refl _⟩ (D 45 rfl) ?_
            refine j_if_ne C  88 (D 46 rfl) (by decide) (fun h84 => absurd h84 (fun z => z rfl)) (fun h84 => ?_)
            exact j_vret C P rfl (D 47 rfl) ⟨Nat.le_refl _, Nat.le_refl _⟩ (MX_e (e := fl (tok f n) (i1 + 1) 2) (by rw [← he, pTab]; unfold pTwo; rw [show pNum (tok f n) (i1 + 1) lw 100000 = .inl (fl (tok f n) (i1 + 1) 2) from by unfold pNum; rw [if_pos h39, if_neg hwn], bnd_l, bnd_l]) (Fx.up (Fx.up hF (Or.inl ⟨rfl, by omega⟩)) (Or.inl ⟨rfl, by omega⟩)) (by rw [up2_i (by omega), up2_same]; rfl) (by rw [up2_same]; show _ = nI (tok f n (i1 + 1)).2.1; rw [tok_2]))
          · have hn8e : n1 = 8 := nI_inj (by omega) (by omega) h68
            refine j_aload_n C (D 39 rfl) rfl ?_
            refine j_iconst C (v := nI 4) (D 40 rfl) rfl ?_
            refine j_aload_n C (D 41 rfl) rfl ?_
            refine j_geti C f_X12_120 (lit (kd := 12) (n := 48) rfl) rfl rfl (D 42 rfl) ?_
            refine j_callV C B k_X12_168 (rc_obj C (lit (kd := 12) (n := 48) rfl) rfl rfl) (d_errsF _ _ hL hdd _ _) rfl rfl rfl rfl ⟨Nat.le_refl _, Nat.le_refl _⟩ (D 43 rfl) ?_
            rintro r w' ⟨rfl, rfl⟩
            refine j_aload_n C (D 44 rfl) rfl ?_
            refine j_cVp C B k_X12_106 (rc_obj C (lit (kd := 12) (n := 48) rfl) rfl rfl) (d_goodF _ _ hL hdd) rfl rfl rfl rfl ⟨Nat.le_refl _, Nat.le_refl _⟩ (D 45 rfl) ?_
            refine j_if_ne C  88 (D 46 rfl) (by decide) (fun h84 => absurd h84 (fun z => z rfl)) (fun h84 => ?_)
            exact j_vret C P rfl (D 47 rfl) ⟨Nat.le_refl _, Nat.le_refl _⟩ (MX_e (e := fl (tok f n) (i1 + 1) 2) (by rw [← he, pTab]; unfold pTwo; rw [show pNum (tok f n) (i1 + 1) lw 100000 = .inl (fl (tok f n) (i1 + 1) 2) from by unfold pNum; rw [if_pos h39, if_neg hwn], bnd_l, bnd_l]) (Fx.up (Fx.up hF (Or.inl ⟨rfl, by omega⟩)) (Or.inl ⟨rfl, by omega⟩)) (by rw [up2_i (by omega), up2_same]; rfl) (by rw [up2_same]; show _ = nI (tok f n (i1 + 1)).2.1; rw [tok_2]))
      · have n39 : ¬ (tok f n (i1 + 1)).1 = 39 := fun z => h19 ((MS_2 hS1).mpr z)
        refine j_aload_n C (D 13 rfl) rfl ?_
        refine j_iconst C (v := nI 1) (D 14 rfl) rfl ?_
        refine j_aload_n C (D 15 rfl) rfl ?_
        refine j_geti C f_X12_120 (lit (kd := 12) (n := 48) rfl) rfl rfl (D 16 rfl) ?_
        rw [hS1.2.1]
        refine j_callV C B k_X12_168 (rc_obj C (lit (kd := 12) (n := 48) rfl) rfl rfl) (d_errsT _ _ hL hg1 _ _) rfl rfl rfl rfl ⟨Nat.le_refl _, Nat.le_refl _⟩ (D 17 rfl) ?_
        rintro r w' ⟨rfl, rfl⟩
        have hdd : ¬ up2 (up2 I1 172 34 (nI 1)) 172 35 (nI (spo f n (i1 + 1))) 172 34 = 0 := dd_of (k := 1) (by rw [up2_i (by omega), up2_same]) (by omega)
        refine j_aload_n C (D 18 rfl) rfl ?_
        refine j_cVp C B k_X12_106 (rc_obj C (lit (kd := 12) (n := 48) rfl) rfl rfl) (d_goodF _ _ hL hdd) rfl rfl rfl rfl ⟨Nat.le_refl _, Nat.le_refl _⟩ (D 19 rfl) ?_
        refine j_if_eq C  65 (D 20 rfl) (by decide) (fun h35 => ?_) (fun h35 => absurd h35 (fun z => z rfl))
        refine j_iload_n C (D 36 rfl) rfl ?_
        refine j_bipush C (v := nI 8) (D 37 rfl) rfl ?_
        refine j_icmp_ne C  80 (D 38 rfl) (by decide) (fun h68 => ?_) (fun h68 => ?_)
        · have hn8e : ¬ n1 = 8 := fun z => h68 (by rw [z])
          refine j_aload_n C (D 44 rfl) rfl ?_
          refine j_cVp C B k_X12_106 (rc_obj C (lit (kd := 12) (n := 48) rfl) rfl rfl) (d_goodF _ _ hL hdd) rfl rfl rfl rfl ⟨Nat.le_refl _, Nat.le_refl _⟩ (D 45 rfl) ?_
          refine j_if_ne C  88 (D 46 rfl) (by decide) (fun h84 => absurd h84 (fun z => z rfl)) (fun h84 => ?_)
          exact j_vret C P rfl (D 47 rfl) ⟨Nat.le_refl _, Nat.le_refl _⟩ (MX_e (e := fl (tok f n) (i1 + 1) 1) (by rw [← he, pTab]; unfold pTwo; rw [show pNum (tok f n) (i1 + 1) lw 100000 = .inl (fl (tok f n) (i1 + 1) 1) from by unfold pNum; rw [if_neg n39], bnd_l, bnd_l]) (Fx.up (Fx.up hF (Or.inl ⟨rfl, by omega⟩)) (Or.inl ⟨rfl, by omega⟩)) (by rw [up2_i (by omega), up2_same]; rfl) (by rw [up2_same]; show _ = nI (tok f n (i1 + 1)).2.1; rw [tok_2]))
        · have hn8e : n1 = 8 := nI_inj (by omega) (by omega) h68
          refine j_aload_n C (D 39 rfl) rfl ?_
          refine j_iconst C (v := nI 4) (D 40 rfl) rfl ?_
          refine j_aload_n C (D 41 rfl) rfl ?_
          refine j_geti C f_X12_120 (lit (kd := 12) (n := 48) rfl) rfl rfl (D 42 rfl) ?_
          refine j_callV C B k_X12_168 (rc_obj C (lit (kd := 12) (n := 48) rfl) rfl rfl) (d_errsF _ _ hL hdd _ _) rfl rfl rfl rfl ⟨Nat.le_refl _, Nat.le_refl _⟩ (D 43 rfl) ?_
          rintro r w' ⟨rfl, rfl⟩
          refine j_aload_n C (D 44 rfl) rfl ?_
          refine j_cVp C B k_X12_106 (rc_obj C (lit (kd := 12) (n := 48) rfl) rfl rfl) (d_goodF _ _ hL hdd) rfl rfl rfl rfl ⟨Nat.le_refl _, Nat.le_refl _⟩ (D 45 rfl) ?_
          refine j_if_ne C  88 (D 46 rfl) (by decide) (fun h84 => absurd h84 (fun z => z rfl)) (fun h84 => ?_)
          exact j_vret C P rfl (D 47 rfl) ⟨Nat.le_refl _, Nat.le_refl _⟩ (MX_e (e := fl (tok f n) (i1 + 1) 1) (by rw [← he, pTab]; unfold pTwo; rw [show pNum (tok f n) (i1 + 1) lw 100000 = .inl (fl (tok f n) (i1 + 1) 1) from by unfold pNum; rw [if_neg n39], bnd_l, bnd_l]) (Fx.up (Fx.up hF (Or.inl ⟨rfl, by omega⟩)) (Or.inl ⟨rfl, by omega⟩)) (by rw [up2_i (by omega), up2_same]; rfl) (by rw [up2_same]; show _ = nI (tok f n (i1 + 1)).2.1; rw [tok_2]))
  refine j_iconst C (v := nI 0) (D 0 rfl) rfl ?_
  refine j_istore_n C (D 1 rfl) rfl ?_
  refine j_iconst C (v := (-1)) (D 2 rfl) rfl ?_
  refine j_istore_n C (D 3 rfl) rfl ?_
  refine j_iconst C (v := nI 0) (D 4 rfl) rfl ?_
  refine j_istore C (D 5 rfl) rfl ?_
  rw [show (-1 : Int32) = nI 0 - nI 1 from by decide]
  exact L7 9 0 0 0 E i I rfl hlt hS hg rfl (fun k hk => by omega) ⟨by omega, by omega, by omega, fun k z => by omega, fun k z => by omega, fun _ => ⟨rfl, rfl⟩, fun k z => by omega⟩ (Fx.rf _ _) rfl

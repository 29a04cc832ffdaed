set_option maxRecDepth 20000 in
theorem d_needQ (l : Launch) (G : GT) {I : Nat → Nat → Int32} {L : Nat → Nat → Int64} {R : Nat → Nat → Option Nat} (hL : Lay R) {V : VT} (hV : WV V) (hM : MT I V) (ld : Bool) (hld : I 172 1 = b2 (ld = true)) (a n : Int32) : Mt l G mX12_need (9) 0 0 [.ref (ra G 172), .int a, .int n] (wd I L R) (qM (a_need V ld a n) I R) := by
  refine mt_of (own := RX12) (by decide) rfl rfl (fun Z C P B => ?_)
  have D := @dc_of _ _ dX12_need
  have hE10 := hV.1
  have hA8 := hV.2.1
  refine j_aload_n C (D 0 rfl) rfl ?_
  refine j_iload_n C (D 1 rfl) rfl ?_
  refine j_cVp C B k_X12_317 (rc_obj C (lit (kd := 12) (n := 48) rfl) rfl rfl) (d_isOne _ _ hL (vA V) hM.2.1 (by omega) _) rfl rfl rfl rfl ⟨Nat.le_refl _, Nat.le_refl _⟩ (D 2 rfl) ?_
  refine j_if_eq C  20 (D 3 rfl) (by decide) (fun h5 => ?_) (fun h5 => ?_)
  · refine j_bipush C (v := (-2)) (D 10 rfl) rfl ?_
    exact j_iret C P rfl (D 11 rfl) ⟨Nat.le_refl _, Nat.le_refl _⟩ (qm0 (a_need_f (fun z => b2_eq h5 z.1)).symm)
  · refine j_iload_n C (D 4 rfl) rfl ?_
    refine j_i2l C (D 5 rfl) ?_
    refine j_lconst C (v := 0) (D 6 rfl) rfl ?_
    refine j_ldc2_w C (v := 99999) (D 7 rfl) n_X12_175 ?_
    refine j_cSp C B k_X12_99 (d_in _ _ _ _ _ _) rfl rfl rfl rfl ⟨Nat.le_refl _, Nat.le_refl _⟩ (D 8 rfl) ?_
    refine j_if_ne C  23 (D 9 rfl) (by decide) (fun h17 => ?_) (fun h17 => ?_)
    · obtain ⟨a, ha, rfl⟩ := inR_n (b2_ne h5)
      have ha8 : a < 8 := by omega
      obtain ⟨t, ht, hte⟩ := mno_n hV a
      refine j_sipush C (v := nI 2000) (D 12 rfl) rfl ?_
      refine j_istore_n C (D 13 rfl) rfl ?_
      refine j_iconst C (v := nI 0) (D 14 rfl) rfl ?_
      refine j_istore C (D 15 rfl) rfl ?_
      have L0 : ∀ (m e : Nat) (x5 : Option Value), e + m = vE V → J Z (0, 0) 30 [some (.ref (ra G 172)), some (.int (nI a)), some (.int n), some (.int (mnO V a e)), some (.int (nI e)), x5] [] (wd I L R) := by
        intro m
        induction m with
        | zero =>
          intro e x5 he
          refine j_iload C (D 16 rfl) rfl ?_
          refine j_aload_n C (D 17 rfl) rfl ?_
          refine j_geti C f_X12_300 (lit (kd := 12) (n := 48) rfl) rfl rfl (D 18 rfl) ?_
          rw [hM.1]
          refine j_icmp_ge C  72 (D 19 rfl) (by decide) (fun h36 => ?_) (fun h36 => absurd h36 (fun z => z ((nle (by omega) (by omega)).mpr (by omega))))
          refine j_aload_n C (D 38 rfl) rfl ?_
          refine j_aload_n C (D 39 rfl) rfl ?_
          refine j_getr C f_X12_22 (lit (kd := 12) (n := 48) rfl) rfl rfl (hL _ _ _ rfl) (D 40 rfl) ?_
          refine j_callV C B k_X12_410 (rc_obj C (lit (kd := 12) (n := 48) rfl) rfl rfl) (d_lays _ _ hL hV hM 177 (vmk V) (lit (kd := 20) (n := 80) rfl) (Or.inl rfl) (fun b e hb he => ⟨(hM.2.2.2.2.2.1 b e hb (by omega)).1, (hV.2.2.2.2.2.1 b e hb (by omega)).1⟩)) rfl rfl rfl rfl ⟨Nat.le_refl _, Nat.le_refl _⟩ (D 41 rfl) ?_
          rintro r w' ⟨rfl, I2, rfl, hF2, hl⟩
          have hM2 := MT_fr hM hF2.M
          have hz := pza_M hV (vmk V)
          refine j_iconst C (v := nI 0) (D 42 rfl) rfl ?_
          refine j_istore C (D 43 rfl) rfl ?_
          have Lp : ∀ (m k : Nat) (I1 : Nat → Nat → Int32) (L1 : Nat → Nat → Int64) (Pc : Nat → Nat → Int32) (gc : Nat → Nat → Bool) (x5 : Option Value), k + m = t + 1 → FrM I I1 → ML I1 V Pc gc → pza V Pc gc → opR V a (Pc a) (gc a) → fst1 (ndF V a n) (t + 1) 0 = fst1 (ndF V a n) m k → J Z (0, 0) 83 [some (.ref (ra G 172)), some (.int (nI a)), some (.int n), some (.int (nI t)), some (.int (nI k)), x5] [] (wd I1 L1 R) := by
            intro m
            induction m with
            | zero =>
              intro k I1 L1 Pc gc x5 hk hF hl1 hz1 hR hf
              refine j_iload C (D 44 rfl) rfl ?_
              refine j_iload_n C (D 45 rfl) rfl ?_
              refine j_icmp_gt C  150 (D 46 rfl) (by decide) (fun h86 => ?_) (fun h86 => absurd h86 (fun z => z ((nlt (by omega) (by omega)).mpr (by omega))))
              refine j_iconst C (v := (-1)) (D 79 rfl) rfl ?_
              exact j_iret C P rfl (D 80 rfl) ⟨Nat.le_refl _, Nat.le_refl _⟩ (qm1 hF (by rw [a_need_t ⟨(b2_ne h5), ((wL (by decide) (by decide)).mp (b2_ne h17))⟩, tn_n (by omega), nd_ans hV ht hte, hf]; rfl))
            | succ m ih =>
              intro k I1 L1 Pc gc x5 hk hF hl1 hz1 hR hf
              refine j_iload C (D 44 rfl) rfl ?_
              refine j_iload_n C (D 45 rfl) rfl ?_
              refine j_icmp_gt C  150 (D 46 rfl) (by decide) (fun h86 => absurd h86 (fun z => by rw [nlt (by omega) (by omega)] at z; omega)) (fun h86 => ?_)
              refine j_iconst C (v := nI 0) (D 47 rfl) rfl ?_
              refine j_istore C (D 48 rfl) rfl ?_
              have Le : ∀ (m e : Nat) (I2 : Nat → Nat → Int32) (L2 : Nat → Nat → Int64), e + m = vE V → FrM I I2 → ML I2 V (va_up Pc a (opq V a e (nI k) (Pc a))) (va_up gc a (opg V a e (gc a))) → J Z (0, 0) 92 [some (.ref (ra G 172)), some (.int (nI a)), some (.int n), some (.int (nI t)), some (.int (nI k)), some (.int (nI e))] [] (wd I2 L2 R) := by
                intro m
                induction m with
                | zero =>
                  intro e I2 L2 he hF2 hl2
                  have hM3 := MT_fr hM hF2
                  have hF3 := hF2
                  have hl3 : ML I2 V (va_up Pc a (opP V a (nI k))) (va_up gc a (opG V a)) := by rw [← hR.1, ← hR.2]; rw [show vE V = e by omega] ; exact hl2
                  have hz2 : pza V (va_up Pc a (opP V a (nI k))) (va_up gc a (opG V a)) := pza_row hz1 (op_pz hV ha (by rw [nI_int (by omega)]; omega))
                  refine j_iload C (D 49 rfl) rfl ?_
                  refine j_aload_n C (D 50 rfl) rfl ?_
                  refine j_geti C f_X12_300 (lit (kd := 12) (n := 48) rfl) rfl rfl (D 51 rfl) ?_
                  rw [hM3.1]
                  refine j_icmp_ge C  132 (D 52 rfl) (by decide) (fun h98 => ?_) (fun h98 => absurd h98 (fun z => z ((nle (by omega) (by omega)).mpr (by omega))))
                  refine j_aload_n C (D 70 rfl) rfl ?_
                  refine j_iload_n C (D 71 rfl) rfl ?_
                  refine j_callV C B k_X12_395 (rc_obj C (lit (kd := 12) (n := 48) rfl) rfl rfl) (d_totalOf _ _ hL hV hM3 hz2 hl3 a ha) rfl rfl rfl rfl ⟨Nat.le_refl _, Nat.le_refl _⟩ (D 72 rfl) ?_
                  rintro r w' ⟨rfl, L3, rfl⟩
                  refine j_iload_n C (D 73 rfl) rfl ?_
                  rw [totS, vu_same, vu_same]
                  refine j_icmp_lt C  144 (D 74 rfl) (by decide) (fun h138 => ?_) (fun h138 => ?_)
                  · first | refine j_iinc1 C (D 77 rfl) rfl rfl ?_ | refine j_iinc C (D 77 rfl) rfl rfl rfl ?_
                    refine j_goto C 83 (D 78 rfl) (by decide) ?_
                    exact ih (k + 1) _ _ _ _ _ (by omega) hF3 hl3 hz2 (by rw [vu_same, vu_same]; exact opR_s _) (by rw [hf, fst1, if_neg (fun (z : ndF V a n k = true) => by have z := of_decide_eq_true z; rw [i_lt] at h138; rw [i_le] at z; omega)])
                  · refine j_iload C (D 75 rfl) rfl ?_
                    exact j_iret C P rfl (D 76 rfl) ⟨Nat.le_refl _, Nat.le_refl _⟩ (qm1 hF3 (by rw [a_need_t ⟨(b2_ne h5), ((wL (by decide) (by decide)).mp (b2_ne h17))⟩, tn_n (by omega), nd_ans hV ht hte, hf, fst1, if_pos (show ndF V a n k = true from decide_eq_true (by rw [i_lt] at h138; rw [i_le]; omega))]))
                | succ m ihe =>
                  intro e I2 L2 he hF2 hl2
                  have hM3 := MT_fr hM hF2
                  refine j_iload C (D 49 rfl) rfl ?_
                  refine j_aload_n C (D 50 rfl) rfl ?_
                  refine j_geti C f_X12_300 (lit (kd := 12) (n := 48) rfl) rfl rfl (D 51 rfl) ?_
                  rw [hM3.1]
                  refine j_icmp_ge C  132 (D 52 rfl) (by decide) (fun h98 => absurd h98 (fun z => by rw [nle (by omega) (by omega)] at z; omega)) (fun h98 => ?_)
                  refine j_aload_n C (D 53 rfl) rfl ?_
                  refine j_getr C f_X12_22 (lit (kd := 12) (n := 48) rfl) rfl rfl (hL _ _ _ rfl) (D 54 rfl) ?_
                  refine j_bipush C (v := nI 10) (D 55 rfl) rfl ?_
                  refine j_iload_n C (D 56 rfl) rfl ?_
                  refine j_imul C (D 57 rfl) ?_
                  refine j_iload C (D 58 rfl) rfl ?_
                  refine j_iadd C (D 59 rfl) ?_
                  refine j_iald C (lit (kd := 20) (n := 80) rfl) (ix_cell' ha8 (by omega)) (D 60 rfl) ?_
                  rw [(hM3.2.2.2.2.2.1 a e ha (by omega)).1]
                  refine j_iconst C (v := (-1)) (D 61 rfl) rfl ?_
                  refine j_icmp_ne C  126 (D 62 rfl) (by decide) (fun h114 => ?_) (fun h114 => ?_)
                  · first | refine j_iinc1 C (D 68 rfl) rfl rfl ?_ | refine j_iinc C (D 68 rfl) rfl rfl rfl ?_
                    refine j_goto C 92 (D 69 rfl) (by decide) ?_
                    exact ihe (e + 1) I2 _ (by omega) hF2 (by rw [← opq_n h114, ← opg_n h114]; exact hl2)
                  · refine j_aload_n C (D 63 rfl) rfl ?_
                    refine j_iload_n C (D 64 rfl) rfl ?_
                    refine j_iload C (D 65 rfl) rfl ?_
                    refine j_iload C (D 66 rfl) rfl ?_
                    refine j_callV C B k_X12_424 (rc_obj C (lit (kd := 12) (n := 48) rfl) rfl rfl) (d_puts0 _ _ hL a e (nI k) ha8 (by omega)) rfl rfl rfl rfl ⟨Nat.le_refl _, Nat.le_refl _⟩ (D 67 rfl) ?_
                    rintro r w' ⟨rfl, rfl⟩
                    first | refine j_iinc1 C (D 68 rfl) rfl rfl ?_ | refine j_iinc C (D 68 rfl) rfl rfl rfl ?_
                    refine j_goto C 92 (D 69 rfl) (by decide) ?_
                    exact ihe (e + 1) _ _ (by omega) ((hF2.put (by decide)).put (by decide)) (by have z := ML_set (a := a) (e := e) (v := nI k) (b := true) hE10 (by omega) hl2 (b2_t rfl); rw [tw_vu, tw_vu, opq_s ⟨by omega, h114⟩, opg_s ⟨by omega, h114⟩] at z; exact z)
              exact Le (vE V) 0 _ _ (by omega) hF (by rw [opq_0, opg_0, vu_id, vu_id]; exact hl1)
          rw [show e = vE V by omega, hte]
          exact Lp (t + 1) 0 _ _ _ _ _ (by omega) hF2.M hl hz opR_0 rfl
        | succ m ih0 =>
          intro e x5 he
          refine j_iload C (D 16 rfl) rfl ?_
          refine j_aload_n C (D 17 rfl) rfl ?_
          refine j_geti C f_X12_300 (lit (kd := 12) (n := 48) rfl) rfl rfl (D 18 rfl) ?_
          rw [hM.1]
          refine j_icmp_ge C  72 (D 19 rfl) (by decide) (fun h36 => absurd h36 (fun z => by rw [nle (by omega) (by omega)] at z; omega)) (fun h36 => ?_)
          refine j_aload_n C (D 20 rfl) rfl ?_
          refine j_getr C f_X12_22 (lit (kd := 12) (n := 48) rfl) rfl rfl (hL _ _ _ rfl) (D 21 rfl) ?_
          refine j_bipush C (v := nI 10) (D 22 rfl) rfl ?_
          refine j_iload_n C (D 23 rfl) rfl ?_
          refine j_imul C (D 24 rfl) ?_
          refine j_iload C (D 25 rfl) rfl ?_
          refine j_iadd C (D 26 rfl) ?_
          refine j_iald C (lit (kd := 20) (n := 80) rfl) (ix_cell' ha8 (by omega)) (D 27 rfl) ?_
          rw [(hM.2.2.2.2.2.1 a e ha (by omega)).1]
          refine j_iconst C (v := (-1)) (D 28 rfl) rfl ?_
          refine j_icmp_ne C  66 (D 29 rfl) (by decide) (fun h52 => ?_) (fun h52 => ?_)
          · first | refine j_iinc1 C (D 36 rfl) rfl rfl ?_ | refine j_iinc C (D 36 rfl) rfl rfl rfl ?_
            refine j_goto C 30 (D 37 rfl) (by decide) ?_
            have hq := ih0 (e + 1) x5 (by omega)
            rw [mnO_f h52] at hq
            exact hq
          · have hme : mE I e = vev V e := hM.2.2.2.2.1 e (by omega)
            have hWE : WE (mE I e) := by rw [hme]; exact hV.2.2.2.2.1 e (by omega)
            refine j_iload_n C (D 30 rfl) rfl ?_
            refine j_aload_n C (D 31 rfl) rfl ?_
            refine j_iload C (D 32 rfl) rfl ?_
            refine j_cVp C B k_X12_356 (rc_obj C (lit (kd := 12) (n := 48) rfl) rfl rfl) (d_topOf _ _ hL e (by omega) hWE) rfl rfl rfl rfl ⟨Nat.le_refl _, Nat.le_refl _⟩ (D 33 rfl) ?_
            rw [hme]
            refine j_mmin C B k_X12_138 rfl rfl ⟨Nat.le_refl _, Nat.le_refl _⟩ (D 34 rfl) ?_
            refine j_istore_n C (D 35 rfl) rfl ?_
            first | refine j_iinc1 C (D 36 rfl) rfl rfl ?_ | refine j_iinc C (D 36 rfl) rfl rfl rfl ?_
            refine j_goto C 30 (D 37 rfl) (by decide) ?_
            have hq := ih0 (e + 1) x5 (by omega)
            rw [mnO_t h52] at hq
            exact hq
      exact L0 (vE V) 0 _ (by omega)
    · refine j_bipush C (v := (-2)) (D 10 rfl) rfl ?_
      exact j_iret C P rfl (D 11 rfl) ⟨Nat.le_refl _, Nat.le_refl _⟩ (qm0 (a_need_f (fun z => b2_eq h17 ((wL (by decide) (by decide)).mpr z.2))).symm)
def evT (V : VT) (k : Nat) (e : Nat) : Int32 := mnI (nI k) (topS (vev V e))
def evF (V : VT) (n : Int32) (k : Nat) : Bool := decide (n ≤ sumN (evT V k) (vE V))
set_option maxRecDepth 20000 in
theorem c_sumOfTops (l : Launch) (G : GT) {c : Nat} (hc : isC c) {I : Nat → Nat → Int32} {L : Nat → Nat → Int64} {R : Nat → Nat → Option Nat} (hL : Lay R) (hr5 : R 0 5 = some c) {V : VT} (hV : WV V) (hT : CT I c V) (k : Nat) (ht : ∀ e, e < vE V → I 171 e = topS (vev V e)) : Mt l G mX11_sumOfTops (1) 0 0 [.ref (ra G 0), .int (nI k)] (wd I L R) (pV (.int (sumN (evT V k) (vE V))) (wd I L R)) := by
  refine mt_of (own := RX11) (by decide) rfl rfl (fun Z C P B => ?_)
  have D := @dc_of _ _ dX11_sumOfTops
  have hE10 := hV.1
  have Lp : ∀ (m e : Nat), e + m = vE V → J Z (0, 0) 4 [some (.ref (ra G 0)), some (.int (nI k)), some (.int (sumN (evT V k) e)), some (.int (nI e))] [] (wd I L R) := by
    intro m
    induction m with
    | zero =>
      intro e he
      refine j_iload_n C (D 4 rfl) rfl ?_
      refine j_aload_n C (D 5 rfl) rfl ?_
      refine j_getr C f_X11_37 (lit (kd := 11) (n := 12) rfl) rfl rfl hr5 (D 6 rfl) ?_
      refine j_geti C f_X11_98 (sC0 hc) rfl rfl (D 7 rfl) ?_
      rw [hT.1]
      refine j_icmp_ge C  34 (D 8 rfl) (by decide) (fun h12 => ?_) (fun h12 => absurd h12 (fun z => z ((nle (by omega) (by omega)).mpr (by omega))))
      refine j_iload_n C (D 20 rfl) rfl ?_
      exact j_iret C P rfl (D 21 rfl) ⟨Nat.le_refl _, Nat.le_refl _⟩ (pv_i (by rw [show vE V = e by omega]))
    | succ m ih =>
      intro e he
      refine j_iload_n C (D 4 rfl) rfl ?_
      refine j_aload_n C (D 5 rfl) rfl ?_
      refine j_getr C f_X11_37 (lit (kd := 11) (n := 12) rfl) rfl rfl hr5 (D 6 rfl) ?_
      refine j_geti C f_X11_98 (sC0 hc) rfl rfl (D 7 rfl) ?_
      rw [hT.1]
      refine j_icmp_ge C  34 (D 8 rfl) (by decide) (fun h12 => absurd h12 (fun z => by rw [nle (by omega) (by omega)] at z; omega)) (fun h12 => ?_)
      refine j_iload_n C (D 9 rfl) rfl ?_
      refine j_iload_n C (D 10 rfl) rfl ?_
      refine j_aload_n C (D 11 rfl) rfl ?_
      refine j_getr C f_X11_65 (lit (kd := 11) (n := 12) rfl) rfl rfl (hL _ _ _ rfl) (D 12 rfl) ?_
      refine j_iload_n C (D 13 rfl) rfl ?_
      refine j_iald C (lit (kd := 20) (n := 10) rfl) (ix_n (by omega) (by decide)) (D 14 rfl) ?_
      rw [ht e (by omega)]
      refine j_mmin C B k_X11_354 rfl rfl ⟨Nat.le_refl _, Nat.le_refl _⟩ (D 15 rfl) ?_
      refine j_iadd C (D 16 rfl) ?_
      refine j_istore_n C (D 17 rfl) rfl ?_
      first | refine j_iinc1 C (D 18 rfl) rfl rfl ?_ | refine j_iinc C (D 18 rfl) rfl rfl rfl ?_
      refine j_goto C 4 (D 19 rfl) (by decide) ?_
      exact ih (e + 1) (by omega)
  refine j_iconst C (v := nI 0) (D 0 rfl) rfl ?_
  refine j_istore_n C (D 1 rfl) rfl ?_
  refine j_iconst C (v := nI 0) (D 2 rfl) rfl ?_
  refine j_istore_n C (D 3 rfl) rfl ?_
  exact Lp (vE V) 0 (by omega)
def a_even (V : VT) (ld : Bool) (n : Int32) : Int32 := if ld = true ∧ wi 0 99999 n then fst1 (evF V n) 2001 0 else -2
theorem a_even_t {V : VT} {ld : Bool} {n : Int32} (hX : ld = true ∧ wi 0 99999 n) : a_even V ld n = fst1 (evF V n) 2001 0 := if_pos hX
theorem a_even_f {V : VT} {ld : Bool} {n : Int32} (hX : ¬ (ld = true ∧ wi 0 99999 n)) : a_even V ld n = -2 := if_neg hX
set_option maxRecDepth 20000 in
theorem c_evenQ (l : Launch) (G : GT) {c : Nat} (hc : isC c) {I : Nat → Nat → Int32} {L : Nat → Nat → Int64} {R : Nat → Nat → Option Nat} (hL : Lay R) (hr5 : R 0 5 = some c) {V : VT} (hV : WV V) (hT : CT I c V) (ld : Bool) (hld : I 0 6 = b2 (ld = true)) (n : Int32) : Mt l G mX11_even (5) 0 0 [.ref (ra G 0), .int n] (wd I L R) (qC (a_even V ld n) I R) := by
  refine mt_of (own := RX11) (by decide) rfl rfl (fun Z C P B => ?_)
  have D := @dc_of _ _ dX11_even
  have hE10 := hV.1
  have hA8 := hV.2.1
  refine j_aload_n C (D 0 rfl) rfl ?_
  refine j_geti C f_X11_85 (lit (kd := 11) (n := 12) rfl) rfl rfl (D 1 rfl) ?_
  rw [hld]
  refine j_if_eq C  17 (D 2 rfl) (by decide) (fun h4 => ?_) (fun h4 => ?_)
  · refine j_bipush C (v := (-2)) (D 8 rfl) rfl ?_
    exact j_iret C P rfl (D 9 rfl) ⟨Nat.le_refl _, Nat.le_refl _⟩ (qc0 (a_even_f (fun z => b2_eq h4 z.1)).symm)
  · refine j_iload_n C (D 3 rfl) rfl ?_
    refine j_iconst C (v := nI 0) (D 4 rfl) rfl ?_
    refine j_ldc C (v := 99999) (D 5 rfl) n_X11_236 ?_
    refine j_cSp C B k_X11_158 (c_isWithin _ _ _ _ _ _) rfl rfl rfl rfl ⟨Nat.le_refl _, Nat.le_refl _⟩ (D 6 rfl) ?_
    refine j_if_ne C  20 (D 7 rfl) (by decide) (fun h14 => ?_) (fun h14 => ?_)
    · refine j_iconst C (v := nI 0) (D 10 rfl) rfl ?_
      refine j_istore_n C (D 11 rfl) rfl ?_
      have L0 : ∀ (m e : Nat) (I1 : Nat → Nat → Int32), e + m = vE V → FrS I I1 → (∀ j, j < e → I1 171 j = topS (vev V j)) → J Z (0, 0) 22 [some (.ref (ra G 0)), some (.int n), some (.int (nI e))] [] (wd I1 L R) := by
        intro m
        induction m with
        | zero =>
          intro e I1 he hF htp
          have hT1 := CT_fr hc hT hF hV.1
          refine j_iload_n C (D 12 rfl) rfl ?_
          refine j_aload_n C (D 13 rfl) rfl ?_
          refine j_getr C f_X11_37 (lit (kd := 11) (n := 12) rfl) rfl rfl hr5 (D 14 rfl) ?_
          refine j_geti C f_X11_98 (sC0 hc) rfl rfl (D 15 rfl) ?_
          rw [hT1.1]
          refine j_icmp_ge C  57 (D 16 rfl) (by decide) (fun h30 => ?_) (fun h30 => absurd h30 (fun z => z ((nle (by omega) (by omega)).mpr (by omega))))
          refine j_iconst C (v := nI 0) (D 29 rfl) rfl ?_
          refine j_istore_n C (D 30 rfl) rfl ?_
          have Lp : ∀ (m k : Nat), k + m = 2001 → fst1 (evF V n) 2001 0 = fst1 (evF V n) m k → J Z (0, 0) 59 [some (.ref (ra G 0)), some (.int n), some (.int (nI k))] [] (wd I1 L R) := by
            intro m
            induction m with
            | zero =>
              intro k hk hf
              refine j_iload_n C (D 31 rfl) rfl ?_
              refine j_sipush C (v := nI 2000) (D 32 rfl) rfl ?_
              refine j_icmp_gt C  83 (D 33 rfl) (by decide) (fun h63 => ?_) (fun h63 => absurd h63 (fun z => z ((nlt (by omega) (by omega)).mpr (by omega))))
              refine j_iconst C (v := (-1)) (D 43 rfl) rfl ?_
              exact j_iret C P rfl (D 44 rfl) ⟨Nat.le_refl _, Nat.le_refl _⟩ (qc1 hF (by rw [a_even_t ⟨(b2_ne h4), ((wC (by decide) (by decide)).mp (b2_ne h14))⟩, hf]; rfl))
            | succ m ih =>
              intro k hk hf
              refine j_iload_n C (D 31 rfl) rfl ?_
              refine j_sipush C (v := nI 2000) (D 32 rfl) rfl ?_
              refine j_icmp_gt C  83 (D 33 rfl) (by decide) (fun h63 => absurd h63 (fun z => by rw [nlt (by omega) (by omega)] at z; omega)) (fun h63 => ?_)
              refine j_aload_n C (D 34 rfl) rfl ?_
              refine j_iload_n C (D 35 rfl) rfl ?_
              refine j_cVp C B k_X11_331 (rc_obj C (lit (kd := 11) (n := 12) rfl) rfl rfl) (c_sumOfTops _ _ hc hL hr5 hV (CT_fr hc hT hF hV.1) k (fun e he => htp e (by omega))) rfl rfl rfl rfl ⟨Nat.le_refl _, Nat.le_refl _⟩ (D 36 rfl) ?_
              refine j_iload_n C (D 37 rfl) rfl ?_
              refine j_icmp_lt C  77 (D 38 rfl) (by decide) (fun h72 => ?_) (fun h72 => ?_)
              · first | refine j_iinc1 C (D 41 rfl) rfl rfl ?_ | refine j_iinc C (D 41 rfl) rfl rfl rfl ?_
                refine j_goto C 59 (D 42 rfl) (by decide) ?_
                exact ih (k + 1) (by omega) (by rw [hf, fst1, if_neg (fun (z : evF V n k = true) => by have z := of_decide_eq_true z; rw [i_lt] at h72; rw [i_le] at z; omega)])
              · refine j_iload_n C (D 39 rfl) rfl ?_
                exact j_iret C P rfl (D 40 rfl) ⟨Nat.le_refl _, Nat.le_refl _⟩ (qc1 hF (by rw [a_even_t ⟨(b2_ne h4), ((wC (by decide) (by decide)).mp (b2_ne h14))⟩, hf, fst1, if_pos (show evF V n k = true from decide_eq_true (by rw [i_lt] at h72; rw [i_le]; omega))]))
          exact Lp 2001 0 (by omega) rfl
        | succ m ih0 =>
          intro e I1 he hF htp
          have hT1 := CT_fr hc hT hF hV.1
          have he10 : e < 10 := by omega
          refine j_iload_n C (D 12 rfl) rfl ?_
          refine j_aload_n C (D 13 rfl) rfl ?_
          refine j_getr C f_X11_37 (lit (kd := 11) (n := 12) rfl) rfl rfl hr5 (D 14 rfl) ?_
          refine j_geti C f_X11_98 (sC0 hc) rfl rfl (D 15 rfl) ?_
          rw [hT1.1]
          refine j_icmp_ge C  57 (D 16 rfl) (by decide) (fun h30 => absurd h30 (fun z => by rw [nle (by omega) (by omega)] at z; omega)) (fun h30 => ?_)
          refine j_aload_n C (D 17 rfl) rfl ?_
          refine j_getr C f_X11_65 (lit (kd := 11) (n := 12) rfl) rfl rfl (hL _ _ _ rfl) (D 18 rfl) ?_
          refine j_iload_n C (D 19 rfl) rfl ?_
          refine j_aload_n C (D 20 rfl) rfl ?_
          refine j_getr C f_X11_37 (lit (kd := 11) (n := 12) rfl) rfl rfl hr5 (D 21 rfl) ?_
          refine j_getr C f_X11_124 (sC0 hc) rfl rfl (hL _ _ _ (rC0 hc)) (D 22 rfl) ?_
          refine j_iload_n C (D 23 rfl) rfl ?_
          refine j_aald C (kd := 1) (sC1 hc) rfl (ix_n he10 (by decide)) (hL _ _ _ (rCT hc he10)) (D 24 rfl) ?_
          refine j_cVp C B k_X11_165 (rc_obj C (sT0 (isT_of hc he10)) rfl rfl) (c_mostValue _ _ (isT_of hc he10) hL (hV.2.2.2.2.1 e (by omega)) (hT1.2.2.2.2.1 e (by omega))) rfl rfl rfl rfl ⟨Nat.le_refl _, Nat.le_refl _⟩ (D 25 rfl) ?_
          refine j_iast C (lit (kd := 20) (n := 10) rfl) (ix_n (by omega) (by decide)) (D 26 rfl) ?_
          first | refine j_iinc1 C (D 27 rfl) rfl rfl ?_ | refine j_iinc C (D 27 rfl) rfl rfl rfl ?_
          refine j_goto C 22 (D 28 rfl) (by decide) ?_
          exact ih0 (e + 1) _ (by omega) (hF.put (by unfold scr; omega)) (fun j hj => by
            by_cases q : j = e
            · rw [q, up2_same]
            · rw [up2_i (by omega)]; exact htp j (by omega))
      exact L0 (vE V) 0 _ (by omega) (FrS.rf I) (fun j hj => absurd hj (by omega))
    · refine j_bipush C (v := (-2)) (D 8 rfl) rfl ?_
      exact j_iret C P rfl (D 9 rfl) ⟨Nat.le_refl _, Nat.le_refl _⟩ (qc0 (a_even_f (fun z => b2_eq h14 ((wC (by decide) (by decide)).mpr z.2))).symm)
set_option maxRecDepth 20000 in
theorem d_evenQ (l : Launch) (G : GT) {I : Nat → Nat → Int32} {L : Nat → Nat → Int64} {R : Nat → Nat → Option Nat} (hL : Lay R) {V : VT} (hV : WV V) (hM : MT I V) (ld : Bool) (hld : I 172 1 = b2 (ld = true)) (n : Int32) : Mt l G mX12_even (9) 0 0 [.ref (ra G 172), .int n] (wd I L R) (qM (a_even V ld n) I R) := by
  refine mt_of (own := RX12) (by decide) rfl rfl (fun Z C P B => ?_)
  have D := @dc_of _ _ dX12_even
  have hE10 := hV.1
  have hA8 := hV.2.1
  refine j_aload_n C (D 0 rfl) rfl ?_
  refine j_geti C f_X12_297 (lit (kd := 12) (n := 48) rfl) rfl rfl (D 1 rfl) ?_
  rw [hld]
  refine j_if_eq C  19 (D 2 rfl) (by decide) (fun h4 => ?_) (fun h4 => ?_)
  · refine j_bipush C (v := (-2)) (D 9 rfl) rfl ?_
    exact j_iret C P rfl (D 10 rfl) ⟨Nat.le_refl _, Nat.le_refl _⟩ (qm0 (a_even_f (fun z => b2_eq h4 z.1)).symm)
  · refine j_iload_n C (D 3 rfl) rfl ?_
    refine j_i2l C (D 4 rfl) ?_
    refine j_lconst C (v := 0) (D 5 rfl) rfl ?_
    refine j_ldc2_w C (v := 99999) (D 6 rfl) n_X12_175 ?_
    refine j_cSp C B k_X12_99 (d_in _ _ _ _ _ _) rfl rfl rfl rfl ⟨Nat.le_refl _, Nat.le_refl _⟩ (D 7 rfl) ?_
    refine j_if_ne C  22 (D 8 rfl) (by decide) (fun h16 => ?_) (fun h16 => ?_)
    · refine j_iconst C (v := nI 0) (D 11 rfl) rfl ?_
      refine j_istore_n C (D 12 rfl) rfl ?_
      have Lp : ∀ (m k : Nat) (x3 x4 : Option Value), k + m = 2001 → fst1 (evF V n) 2001 0 = fst1 (evF V n) m k → J Z (0, 0) 24 [some (.ref (ra G 172)), some (.int n), some (.int (nI k)), x3, x4] [] (wd I L R) := by
        intro m
        induction m with
        | zero =>
          intro k x3 x4 hk hf
          refine j_iload_n C (D 13 rfl) rfl ?_
          refine j_sipush C (v := nI 2000) (D 14 rfl) rfl ?_
          refine j_icmp_gt C  77 (D 15 rfl) (by decide) (fun h28 => ?_) (fun h28 => absurd h28 (fun z => z ((nlt (by omega) (by omega)).mpr (by omega))))
          refine j_iconst C (v := (-1)) (D 41 rfl) rfl ?_
          exact j_iret C P rfl (D 42 rfl) ⟨Nat.le_refl _, Nat.le_refl _⟩ (qm0 (by rw [a_even_t ⟨(b2_ne h4), ((wL (by decide) (by decide)).mp (b2_ne h16))⟩, hf]; rfl))
        | succ m ih =>
          intro k x3 x4 hk hf
          refine j_iload_n C (D 13 rfl) rfl ?_
          refine j_sipush C (v := nI 2000) (D 14 rfl) rfl ?_
          refine j_icmp_gt C  77 (D 15 rfl) (by decide) (fun h28 => absurd h28 (fun z => by rw [nlt (by omega) (by omega)] at z; omega)) (fun h28 => ?_)
          refine j_iconst C (v := nI 0) (D 16 rfl) rfl ?_
          refine j_istore_n C (D 17 rfl) rfl ?_
          refine j_iconst C (v := nI 0) (D 18 rfl) rfl ?_
          refine j_istore C (D 19 rfl) rfl ?_
          have Le : ∀ (m e : Nat), e + m = vE V → J Z (0, 0) 36 [some (.ref (ra G 172)), some (.int n), some (.int (nI k)), some (.int (sumN (evT V k) e)), some (.int (nI e))] [] (wd I L R) := by
            intro m
            induction m with
            | zero =>
              intro e he
              refine j_iload C (D 20 rfl) rfl ?_
              refine j_aload_n C (D 21 rfl) rfl ?_
              refine j_geti C f_X12_300 (lit (kd := 12) (n := 48) rfl) rfl rfl (D 22 rfl) ?_
              rw [hM.1]
              refine j_icmp_ge C  64 (D 23 rfl) (by decide) (fun h42 => ?_) (fun h42 => absurd h42 (fun z => z ((nle (by omega) (by omega)).mpr (by omega))))
              refine j_iload_n C (D 34 rfl) rfl ?_
              refine j_iload_n C (D 35 rfl) rfl ?_
              refine j_icmp_lt C  71 (D 36 rfl) (by decide) (fun h66 => ?_) (fun h66 => ?_)
              · first | refine j_iinc1 C (D 39 rfl) rfl rfl ?_ | refine j_iinc C (D 39 rfl) rfl rfl rfl ?_
                refine j_goto C 24 (D 40 rfl) (by decide) ?_
                exact ih (k + 1) _ _ (by omega) (by rw [hf, fst1, if_neg (fun (z : evF V n k = true) => by have z := of_decide_eq_true z; rw [show vE V = e by omega] at z; rw [i_lt] at h66; rw [i_le] at z; omega)])
              · refine j_iload_n C (D 37 rfl) rfl ?_
                exact j_iret C P rfl (D 38 rfl) ⟨Nat.le_refl _, Nat.le_refl _⟩ (qm0 (by rw [a_even_t ⟨(b2_ne h4), ((wL (by decide) (by decide)).mp (b2_ne h16))⟩, hf, fst1, if_pos (show evF V n k = true from decide_eq_true (by rw [show vE V = e by omega]; rw [i_lt] at h66; rw [i_le]; omega))]))
            | succ m ihe =>
              intro e he
              refine j_iload C (D 20 rfl) rfl ?_
              refine j_aload_n C (D 21 rfl) rfl ?_
              refine j_geti C f_X12_300 (lit (kd := 12) (n := 48) rfl) rfl rfl (D 22 rfl) ?_
              rw [hM.1]
              refine j_icmp_ge C  64 (D 23 rfl) (by decide) (fun h42 => absurd h42 (fun z => by rw [nle (by omega) (by omega)] at z; omega)) (fun h42 => ?_)
              have hme : mE I e = vev V e := hM.2.2.2.2.1 e (by omega)
              have hWE : WE (mE I e) := by rw [hme]; exact hV.2.2.2.2.1 e (by omega)
              refine j_iload_n C (D 24 rfl) rfl ?_
              refine j_iload_n C (D 25 rfl) rfl ?_
              refine j_aload_n C (D 26 rfl) rfl ?_
              refine j_iload C (D 27 rfl) rfl ?_
              refine j_cVp C B k_X12_356 (rc_obj C (lit (kd := 12) (n := 48) rfl) rfl rfl) (d_topOf _ _ hL e (by omega) hWE) rfl rfl rfl rfl ⟨Nat.le_refl _, Nat.le_refl _⟩ (D 28 rfl) ?_
              rw [hme]
              refine j_mmin C B k_X12_138 rfl rfl ⟨Nat.le_refl _, Nat.le_refl _⟩ (D 29 rfl) ?_
              refine j_iadd C (D 30 rfl) ?_
              refine j_istore_n C (D 31 rfl) rfl ?_
              first | refine j_iinc1 C (D 32 rfl) rfl rfl ?_ | refine j_iinc C (D 32 rfl) rfl rfl rfl ?_
              refine j_goto C 36 (D 33 rfl) (by decide) ?_
              exact ihe (e + 1) (by omega)
          exact Le (vE V) 0 (by omega)
      exact Lp 2001 0 _ _ (by omega) rfl
    · refine j_bipush C (v := (-2)) (D 9 rfl) rfl ?_
      exact j_iret C P rfl (D 10 rfl) ⟨Nat.le_refl _, Nat.le_refl _⟩ (qm0 (a_even_f (fun z => b2_eq h16 ((wL (by decide) (by decide)).mpr z.2))).symm)

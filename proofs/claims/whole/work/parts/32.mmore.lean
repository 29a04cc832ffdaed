set_option maxRecDepth 20000 in
theorem d_draw (l : Launch) (G : GT) {I : Nat → Nat → Int32} {L : Nat → Nat → Int64} {R : Nat → Nat → Option Nat} (hL : Lay R) (x m : Nat) (hx : L 172 43 = lN x) (hx2 : x < 2147483648) (hm : 1 ≤ m) (hm2 : m ≤ 10000) : Mt l G mX12_draw (0) 0 0 [.ref (ra G 172), .int (nI m)] (wd I L R) (fun r w' => r = some (.int (nI (nx x / 64 % m))) ∧ w' = wd I (up2 L 172 43 (lN (nx x))) R) := by
  refine mt_of (own := RX12) (by decide) rfl rfl (fun Z C P B => ?_)
  have D := @dc_of _ _ dX12_draw
  have hnx := nx_lt x
  refine j_aload_n C (D 0 rfl) rfl ?_
  refine j_ldc2_w C (v := 1103515245) (D 1 rfl) n_X12_462 ?_
  refine j_aload_n C (D 2 rfl) rfl ?_
  refine j_getl C f_X12_464 (lit (kd := 12) (n := 48) rfl) rfl rfl (D 3 rfl) ?_
  rw [hx]
  refine j_lmul C (D 4 rfl) ?_
  rw [lA, lN_mul]
  refine j_ldc2_w C (v := 12345) (D 5 rfl) n_X12_468 ?_
  refine j_ladd C (D 6 rfl) ?_
  rw [lB, lN_add]
  refine j_ldc2_w C (v := 2147483648) (D 7 rfl) n_X12_470 ?_
  refine j_lrem C (D 8 rfl) (by decide) ?_
  rw [lD, pk_lRem (by omega) (by decide) (by decide), show (1103515245 * x + 12345) % 2147483648 = nx x from rfl]
  refine j_putl C f_X12_464 (lit (kd := 12) (n := 48) rfl) rfl rfl (D 9 rfl) ?_
  refine j_aload_n C (D 10 rfl) rfl ?_
  refine j_getl C f_X12_464 (lit (kd := 12) (n := 48) rfl) rfl rfl (D 11 rfl) ?_
  rw [up2_same]
  refine j_ldc2_w C (v := 64) (D 12 rfl) n_X12_472 ?_
  refine j_ldiv C (D 13 rfl) (by decide) ?_
  rw [lC, pk_lDiv (by omega) (by decide) (by decide)]
  refine j_iload_n C (D 14 rfl) rfl ?_
  refine j_i2l C (D 15 rfl) ?_
  rw [nI_toL (by omega)]
  refine j_lrem C (D 16 rfl) (ne_lN (by omega) (by omega)) ?_
  rw [pk_lRem (by omega) (by omega) (by omega)]
  refine j_l2i C (D 17 rfl) ?_
  rw [lN_toI]
  exact j_iret C P rfl (D 18 rfl) ⟨Nat.le_refl _, Nat.le_refl _⟩ ⟨rfl, rfl⟩
def Fr194 (I I' : Nat → Nat → Int32) : Prop := ∀ b j, b ≠ 194 → I' b j = I b j
theorem Fr194.M {I I' : Nat → Nat → Int32} (h : Fr194 I I') : FrM I I' := fun b j q => h b j (by omega)
set_option maxRecDepth 20000 in
theorem d_meets (l : Launch) (G : GT) {I : Nat → Nat → Int32} {L : Nat → Nat → Int64} {R : Nat → Nat → Option Nat} (hL : Lay R) {V : VT} (hV : WV V) (hM : MT I V) (s : Nat) (hs : s < 2147483648) : Mt l G mX12_meets (4) 0 0 [.ref (ra G 172), .long (lN s)] (wd I L R) (fun r w' => r = none ∧ ∃ I' L', w' = wd I' L' R ∧ FrM I I' ∧ ML I' V (ptM V (drS V s)) (gM (drS V s))) := by
  refine mt_of (own := RX12) (by decide) rfl rfl (fun Z C P B => ?_)
  have D := @dc_of _ _ dX12_meets
  have hA8 := hV.2.1
  have hE10 := hV.1
  have Lp : ∀ (m a : Nat) (x4 x5 x6 : Option Value) (I1 : Nat → Nat → Int32) (L1 : Nat → Nat → Int64), a + m = vA V → Fr194 I I1 → L1 172 43 = lN (xa V a s) → (∀ b e, b < a → e < vE V → I1 194 (10 * b + e) = drS V s b e) → J Z (0, 0) 7 [some (.ref (ra G 172)), some (.long (lN s)), none, some (.int (nI a)), x4, x5, x6] [] (wd I1 L1 R) := by
    intro m
    induction m with
    | zero =>
      intro a x4 x5 x6 I1 L1 ha hF hx hr
      refine j_iload_n C (D 5 rfl) rfl ?_
      refine j_aload_n C (D 6 rfl) rfl ?_
      refine j_geti C f_X12_303 (lit (kd := 12) (n := 48) rfl) rfl rfl (D 7 rfl) ?_
      rw [(MT_fr hM hF.M).2.1]
      refine j_icmp_ge C  122 (D 8 rfl) (by decide) (fun h12 => ?_) (fun h12 => absurd h12 (fun z => z ((nle (by omega) (by omega)).mpr (by omega))))
      refine j_aload_n C (D 67 rfl) rfl ?_
      refine j_aload_n C (D 68 rfl) rfl ?_
      refine j_getr C f_X12_80 (lit (kd := 12) (n := 48) rfl) rfl rfl (hL _ _ _ rfl) (D 69 rfl) ?_
      refine j_callV C B k_X12_410 (rc_obj C (lit (kd := 12) (n := 48) rfl) rfl rfl) (d_lays _ _ hL hV (MT_fr hM hF.M) 194 (drS V s) (lit (kd := 20) (n := 80) rfl) (Or.inr rfl) (fun b e hb he => ⟨hr b e (by omega) he, drS_ok V s b e⟩)) rfl rfl rfl rfl ⟨Nat.le_refl _, Nat.le_refl _⟩ (D 70 rfl) ?_
      rintro r w' ⟨rfl, I2, rfl, hF2, k1⟩
      exact j_vret C P rfl (D 71 rfl) ⟨Nat.le_refl _, Nat.le_refl _⟩ ⟨rfl, I2, L1, rfl, hF.M.tr hF2.M, k1⟩
    | succ m ih =>
      intro a x4 x5 x6 I1 L1 ha hF hx hr
      have Lp2 : ∀ (m2 e : Nat) (x5 x6 : Option Value) (I1 : Nat → Nat → Int32) (L1 : Nat → Nat → Int64), e + m2 = vE V → Fr194 I I1 → L1 172 43 = lN (xr V a e (xa V a s)) → (∀ b e, b < a → e < vE V → I1 194 (10 * b + e) = drS V s b e) → (∀ e2, e2 < e → I1 194 (10 * a + e2) = drS V s a e2) → J Z (0, 0) 18 [some (.ref (ra G 172)), some (.long (lN s)), none, some (.int (nI a)), some (.int (nI e)), x5, x6] [] (wd I1 L1 R) := by
        intro m2
        induction m2 with
        | zero =>
          intro e x5 x6 I1 L1 he hF hx hr hr2
          refine j_iload C (D 11 rfl) rfl ?_
          refine j_aload_n C (D 12 rfl) rfl ?_
          refine j_geti C f_X12_300 (lit (kd := 12) (n := 48) rfl) rfl rfl (D 13 rfl) ?_
          rw [(MT_fr hM hF.M).1]
          refine j_icmp_ge C  116 (D 14 rfl) (by decide) (fun h24 => ?_) (fun h24 => absurd h24 (fun z => z ((nle (by omega) (by omega)).mpr (by omega))))
          first | refine j_iinc1 C (D 65 rfl) rfl rfl ?_ | refine j_iinc C (D 65 rfl) rfl rfl rfl ?_
          refine j_goto C 7 (D 66 rfl) (by decide) ?_
          exact ih (a + 1) _ _ _ I1 L1 (by omega) hF (by rw [hx, show e = vE V by omega]; rfl) (fun b e2 hb he2 => by
            by_cases q : b = a
            · rw [q]; exact hr2 e2 (by omega)
            · exact hr b e2 (by omega) he2)
        | succ m2 ih2 =>
          intro e x5 x6 I1 L1 he hF hx hr hr2
          have he10 : e < 10 := by omega
          have hme : I1 177 (10 * a + e) = vmk V a e := ((MT_fr hM hF.M).2.2.2.2.2.1 a e (by omega) he10).1
          have hsp : mE I1 e 5 = nI (spN V e) := by rw [(MT_fr hM hF.M).2.2.2.2.1 e (by omega)]; exact (spN_i hV (by omega)).1
          have hspp : mE (up2 I1 194 (10 * a + e) (vmk V a e)) e 5 = nI (spN V e) := by rw [← hsp]; exact up2_i (by omega)
          refine j_iload C (D 11 rfl) rfl ?_
          refine j_aload_n C (D 12 rfl) rfl ?_
          refine j_geti C f_X12_300 (lit (kd := 12) (n := 48) rfl) rfl rfl (D 13 rfl) ?_
          rw [(MT_fr hM hF.M).1]
          refine j_icmp_ge C  116 (D 14 rfl) (by decide) (fun h24 => absurd h24 (fun z => by rw [nle (by omega) (by omega)] at z; omega)) (fun h24 => ?_)
          refine j_bipush C (v := nI 10) (D 15 rfl) rfl ?_
          refine j_iload_n C (D 16 rfl) rfl ?_
          refine j_imul C (D 17 rfl) ?_
          refine j_iload C (D 18 rfl) rfl ?_
          refine j_iadd C (D 19 rfl) ?_
          rw [pk_mul, nI_add]
          refine j_istore C (D 20 rfl) rfl ?_
          refine j_aload_n C (D 21 rfl) rfl ?_
          refine j_getr C f_X12_80 (lit (kd := 12) (n := 48) rfl) rfl rfl (hL _ _ _ rfl) (D 22 rfl) ?_
          refine j_iload C (D 23 rfl) rfl ?_
          refine j_aload_n C (D 24 rfl) rfl ?_
          refine j_getr C f_X12_22 (lit (kd := 12) (n := 48) rfl) rfl rfl (hL _ _ _ rfl) (D 25 rfl) ?_
          refine j_iload C (D 26 rfl) rfl ?_
          refine j_iald C (lit (kd := 20) (n := 80) rfl) (ix_n (by omega) (by decide)) (D 27 rfl) ?_
          rw [hme]
          refine j_iast C (lit (kd := 20) (n := 80) rfl) (ix_n (by omega) (by decide)) (D 28 rfl) ?_
          refine j_aload_n C (D 29 rfl) rfl ?_
          refine j_getr C f_X12_22 (lit (kd := 12) (n := 48) rfl) rfl rfl (hL _ _ _ rfl) (D 30 rfl) ?_
          refine j_iload C (D 31 rfl) rfl ?_
          refine j_iald C (lit (kd := 20) (n := 80) rfl) (ix_n (by omega) (by decide)) (D 32 rfl) ?_
          rw [up2_i (by omega), hme]
          refine j_iconst C (v := (-1)) (D 33 rfl) rfl ?_
          refine j_icmp_ne C  64 (D 34 rfl) (by decide) (fun h58 => ?_) (fun h58 => ?_)
          · refine j_aload_n C (D 36 rfl) rfl ?_
            refine j_iload C (D 37 rfl) rfl ?_
            refine j_iconst C (v := nI 5) (D 38 rfl) rfl ?_
            refine j_cVp C B k_X12_325 (rc_obj C (lit (kd := 12) (n := 48) rfl) rfl rfl) (d_ofEvent _ _ hL e 5 he10 (by omega)) rfl rfl rfl rfl ⟨Nat.le_refl _, Nat.le_refl _⟩ (D 39 rfl) ?_
            rw [hspp]
            refine j_istore C (D 40 rfl) rfl ?_
            refine j_aload_n C (D 41 rfl) rfl ?_
            refine j_getr C f_X12_80 (lit (kd := 12) (n := 48) rfl) rfl rfl (hL _ _ _ rfl) (D 42 rfl) ?_
            refine j_iload C (D 43 rfl) rfl ?_
            refine j_iconst C (v := nI 0) (D 44 rfl) rfl ?_
            refine j_ldc C (v := 99999) (D 45 rfl) n_X12_177 ?_
            refine j_aload_n C (D 46 rfl) rfl ?_
            refine j_getr C f_X12_22 (lit (kd := 12) (n := 48) rfl) rfl rfl (hL _ _ _ rfl) (D 47 rfl) ?_
            refine j_iload C (D 48 rfl) rfl ?_
            refine j_iald C (lit (kd := 20) (n := 80) rfl) (ix_n (by omega) (by decide)) (D 49 rfl) ?_
            rw [up2_i (by omega), hme]
            refine j_aload_n C (D 50 rfl) rfl ?_
            refine j_iconst C (v := nI 2) (D 51 rfl) rfl ?_
            refine j_iload C (D 52 rfl) rfl ?_
            refine j_imul C (D 53 rfl) ?_
            refine j_iconst C (v := nI 1) (D 54 rfl) rfl ?_
            refine j_iadd C (D 55 rfl) ?_
            rw [pk_mul, nI_add]
            refine j_callV C B k_X12_474 (rc_obj C (lit (kd := 12) (n := 48) rfl) rfl rfl) (d_draw _ _ hL (xr V a e (xa V a s)) (2 * spN V e + 1) hx (xr_lt V a e _ (xa_lt V a s hs)) (by omega) (by have := (spN_i hV (show e < vE V by omega)).2; omega)) rfl rfl rfl rfl ⟨Nat.le_refl _, Nat.le_refl _⟩ (D 56 rfl) ?_
            rintro r w' ⟨rfl, rfl⟩
            refine j_iadd C (D 57 rfl) ?_
            refine j_iload C (D 58 rfl) rfl ?_
            refine j_isub C (D 59 rfl) ?_
            refine j_mmin C B k_X12_138 rfl rfl ⟨Nat.le_refl _, Nat.le_refl _⟩ (D 60 rfl) ?_
            refine j_mmax C B k_X12_365 rfl rfl ⟨Nat.le_refl _, Nat.le_refl _⟩ (D 61 rfl) ?_
            refine j_iast C (lit (kd := 20) (n := 80) rfl) (ix_n (by omega) (by decide)) (D 62 rfl) ?_
            first | refine j_iinc1 C (D 63 rfl) rfl rfl ?_ | refine j_iinc C (D 63 rfl) rfl rfl rfl ?_
            refine j_goto C 18 (D 64 rfl) (by decide) ?_
            exact ih2 (e + 1) _ _ _ _ (by omega) (fun b j q => by rw [up2_i (by omega), up2_i (by omega)]; exact hF b j q) (by rw [up2_same, xr, if_neg h58]) (fun b e2 hb he2 => by rw [up2_i (by omega), up2_i (by omega)]; exact hr b e2 hb he2) (fun e2 he2 => by
              by_cases q : e2 = e
              · rw [q, up2_same, drS, if_neg h58]; rfl
              · rw [up2_i (by omega), up2_i (by omega)]; exact hr2 e2 (by omega))
          · refine j_goto C 110 (D 35 rfl) (by decide) ?_
            first | refine j_iinc1 C (D 63 rfl) rfl rfl ?_ | refine j_iinc C (D 63 rfl) rfl rfl rfl ?_
            refine j_goto C 18 (D 64 rfl) (by decide) ?_
            exact ih2 (e + 1) _ _ _ _ (by omega) (fun b j q => by rw [up2_i (by omega)]; exact hF b j q) (by rw [hx, xr, if_pos h58]) (fun b e2 hb he2 => by rw [up2_i (by omega)]; exact hr b e2 hb he2) (fun e2 he2 => by
              by_cases q : e2 = e
              · rw [q, up2_same, drS, if_pos h58]; exact h58
              · rw [up2_i (by omega)]; exact hr2 e2 (by omega))
      refine j_iload_n C (D 5 rfl) rfl ?_
      refine j_aload_n C (D 6 rfl) rfl ?_
      refine j_geti C f_X12_303 (lit (kd := 12) (n := 48) rfl) rfl rfl (D 7 rfl) ?_
      rw [(MT_fr hM hF.M).2.1]
      refine j_icmp_ge C  122 (D 8 rfl) (by decide) (fun h12 => absurd h12 (fun z => by rw [nle (by omega) (by omega)] at z; omega)) (fun h12 => ?_)
      refine j_iconst C (v := nI 0) (D 9 rfl) rfl ?_
      refine j_istore C (D 10 rfl) rfl ?_
      exact Lp2 (vE V) 0 _ _ I1 L1 (by omega) hF hx hr (fun e he => absurd he (by omega))
  refine j_aload_n C (D 0 rfl) rfl ?_
  refine j_lload_n C (D 1 rfl) rfl ?_
  refine j_putl C f_X12_464 (lit (kd := 12) (n := 48) rfl) rfl rfl (D 2 rfl) ?_
  refine j_iconst C (v := nI 0) (D 3 rfl) rfl ?_
  refine j_istore_n C (D 4 rfl) rfl ?_
  exact Lp (vA V) 0 _ _ _ I _ (by omega) (fun _ _ _ => rfl) (by rw [up2_same]; rfl) (fun b e hb he => absurd hb (by omega))
theorem gain_l {g gi : Int32} {h : Nat} (h1 : 0 ≤ g.toInt ∧ g.toInt ≤ 99999) (h2 : 1 ≤ gi.toInt ∧ gi.toInt ≤ 999) (hh : h ≤ 999) : (g.toInt64 * (nI h).toInt64 / (nI h + gi).toInt64).toInt32 = Int32.ofInt (g.toInt * h / (h + gi.toInt)) := by
  have eh : (nI h).toInt = h := nI_int (by omega)
  have esp : (nI h + gi).toInt = h + gi.toInt := by rw [i_add (by rw [eh]; omega) (by rw [eh]; omega), eh]
  have p0 : 0 ≤ g.toInt * (h : Int) := Int.mul_nonneg h1.1 (by omega)
  have p1 : g.toInt * (h : Int) ≤ 99999 * 999 := Int.mul_le_mul h1.2 (by omega) (by omega) (by omega)
  have em : (g.toInt64 * (nI h).toInt64).toInt = g.toInt * h := by rw [l_mul (by rw [i_l, i_l, eh]; omega) (by rw [i_l, i_l, eh]; omega), i_l, i_l, eh]
  have ed : (g.toInt64 * (nI h).toInt64 / (nI h + gi).toInt64).toInt = g.toInt * h / (h + gi.toInt) := by rw [l_div (by rw [em]; exact p0) (by rw [i_l, esp]; omega), em, i_l, esp]
  have q := gain_rng (h := h) h1 h2.1
  exact eq_ofI (by rw [l_i (by rw [ed]; omega) (by rw [ed]; omega), ed])
set_option maxRecDepth 20000 in
theorem d_trainedOf (l : Launch) (G : GT) {I : Nat → Nat → Int32} {L : Nat → Nat → Int64} {R : Nat → Nat → Option Nat} (hL : Lay R) {V : VT} (hV : WV V) (hM : MT I V) (a e h : Nat) (ha : a < vA V) (he : e < vE V) (hh : h ≤ 999) : Mt l G mX12_trainedOf (1) 0 0 [.ref (ra G 172), .int (nI a), .int (nI e), .int (nI h)] (wd I L R) (pV (.int (trS (vev V e) (vmk V a e) (vgo V a e) (vgi V a e) h)) (wd I L R)) := by
  refine mt_of (own := RX12) (by decide) rfl rfl (fun Z C P B => ?_)
  have D := @dc_of _ _ dX12_trainedOf
  have he10 : e < 10 := by have := hV.1; omega
  have ha8 : a < 8 := by have := hV.2.1; omega
  obtain ⟨em, eg, eh⟩ := hM.2.2.2.2.2.1 a e ha he10
  obtain ⟨okm, okg⟩ := hV.2.2.2.2.2.1 a e ha he10
  have hme : mE I e = vev V e := hM.2.2.2.2.1 e he
  refine j_bipush C (v := nI 10) (D 0 rfl) rfl ?_
  refine j_iload_n C (D 1 rfl) rfl ?_
  refine j_imul C (D 2 rfl) ?_
  refine j_iload_n C (D 3 rfl) rfl ?_
  refine j_iadd C (D 4 rfl) ?_
  rw [pk_mul, nI_add]
  refine j_istore C (D 5 rfl) rfl ?_
  refine j_aload_n C (D 6 rfl) rfl ?_
  refine j_getr C f_X12_22 (lit (kd := 12) (n := 48) rfl) rfl rfl (hL _ _ _ rfl) (D 7 rfl) ?_
  refine j_iload C (D 8 rfl) rfl ?_
  refine j_iald C (lit (kd := 20) (n := 80) rfl) (ix_n (by omega) (by decide)) (D 9 rfl) ?_
  rw [em]
  refine j_istore C (D 10 rfl) rfl ?_
  refine j_iload C (D 11 rfl) rfl ?_
  refine j_iconst C (v := (-1)) (D 12 rfl) rfl ?_
  refine j_icmp_eq C  34 (D 13 rfl) (by decide) (fun h20 => ?_) (fun h20 => ?_)
  · refine j_iload C (D 20 rfl) rfl ?_
    exact j_iret C P rfl (D 21 rfl) ⟨Nat.le_refl _, Nat.le_refl _⟩ (pv_i (by rw [trS, if_pos (Or.inl h20)]))
  · refine j_aload_n C (D 14 rfl) rfl ?_
    refine j_getr C f_X12_25 (lit (kd := 12) (n := 48) rfl) rfl rfl (hL _ _ _ rfl) (D 15 rfl) ?_
    refine j_iload C (D 16 rfl) rfl ?_
    refine j_iald C (lit (kd := 20) (n := 80) rfl) (ix_n (by omega) (by decide)) (D 17 rfl) ?_
    rw [eg]
    refine j_iconst C (v := (-1)) (D 18 rfl) rfl ?_
    refine j_icmp_ne C  37 (D 19 rfl) (by decide) (fun h31 => ?_) (fun h31 => ?_)
    · have gg := okg.resolve_left (fun z => h31 z.1)
      have esp : (nI h + vgi V a e).toInt = h + (vgi V a e).toInt := by rw [i_add (by rw [nI_int (by omega)]; omega) (by rw [nI_int (by omega)]; omega), nI_int (by omega)]
      refine j_aload_n C (D 22 rfl) rfl ?_
      refine j_getr C f_X12_25 (lit (kd := 12) (n := 48) rfl) rfl rfl (hL _ _ _ rfl) (D 23 rfl) ?_
      refine j_iload C (D 24 rfl) rfl ?_
      refine j_iald C (lit (kd := 20) (n := 80) rfl) (ix_n (by omega) (by decide)) (D 25 rfl) ?_
      rw [eg]
      refine j_i2l C (D 26 rfl) ?_
      refine j_iload_n C (D 27 rfl) rfl ?_
      refine j_i2l C (D 28 rfl) ?_
      refine j_lmul C (D 29 rfl) ?_
      refine j_iload_n C (D 30 rfl) rfl ?_
      refine j_aload_n C (D 31 rfl) rfl ?_
      refine j_getr C f_X12_28 (lit (kd := 12) (n := 48) rfl) rfl rfl (hL _ _ _ rfl) (D 32 rfl) ?_
      refine j_iload C (D 33 rfl) rfl ?_
      refine j_iald C (lit (kd := 20) (n := 80) rfl) (ix_n (by omega) (by decide)) (D 34 rfl) ?_
      rw [eh]
      refine j_iadd C (D 35 rfl) ?_
      refine j_i2l C (D 36 rfl) ?_
      refine j_ldiv C (D 37 rfl) (ne0L (by rw [esp]; omega)) ?_
      refine j_l2i C (D 38 rfl) ?_
      rw [gain_l gg.1 gg.2 hh]
      refine j_istore C (D 39 rfl) rfl ?_
      refine j_aload_n C (D 40 rfl) rfl ?_
      refine j_iload_n C (D 41 rfl) rfl ?_
      refine j_iconst C (v := nI 0) (D 42 rfl) rfl ?_
      refine j_cVp C B k_X12_325 (rc_obj C (lit (kd := 12) (n := 48) rfl) rfl rfl) (d_ofEvent _ _ hL e 0 he10 (by omega)) rfl rfl rfl rfl ⟨Nat.le_refl _, Nat.le_refl _⟩ (D 43 rfl) ?_
      rw [hme]
      refine j_iconst C (v := nI 1) (D 44 rfl) rfl ?_
      refine j_icmp_ne C  85 (D 45 rfl) (by decide) (fun h69 => ?_) (fun h69 => ?_)
      · refine j_iconst C (v := nI 0) (D 52 rfl) rfl ?_
        refine j_iload C (D 53 rfl) rfl ?_
        refine j_iload C (D 54 rfl) rfl ?_
        refine j_isub C (D 55 rfl) ?_
        refine j_mmax C B k_X12_365 rfl rfl ⟨Nat.le_refl _, Nat.le_refl _⟩ (D 56 rfl) ?_
        exact j_iret C P rfl (D 57 rfl) ⟨Nat.le_refl _, Nat.le_refl _⟩ (pv_i (by rw [trS, if_neg (c := vmk V a e = -1 ∨ vgo V a e = -1) (fun z => z.elim h20 h31), bbS, if_neg (show ¬ vev V e 0 = 1 from h69)]; rfl))
      · refine j_ldc C (v := 99999) (D 46 rfl) n_X12_177 ?_
        refine j_iload C (D 47 rfl) rfl ?_
        refine j_iload C (D 48 rfl) rfl ?_
        refine j_iadd C (D 49 rfl) ?_
        refine j_mmin C B k_X12_138 rfl rfl ⟨Nat.le_refl _, Nat.le_refl _⟩ (D 50 rfl) ?_
        refine j_goto C 94 (D 51 rfl) (by decide) ?_
        exact j_iret C P rfl (D 57 rfl) ⟨Nat.le_refl _, Nat.le_refl _⟩ (pv_i (by rw [trS, if_neg (c := vmk V a e = -1 ∨ vgo V a e = -1) (fun z => z.elim h20 h31), bbS, if_pos (show vev V e 0 = 1 from h69)]))
    · refine j_iload C (D 20 rfl) rfl ?_
      exact j_iret C P rfl (D 21 rfl) ⟨Nat.le_refl _, Nat.le_refl _⟩ (pv_i (by rw [trS, if_pos (Or.inr h31)]))
set_option maxRecDepth 20000 in
theorem d_trainedWorth (l : Launch) (G : GT) {I : Nat → Nat → Int32} {L : Nat → Nat → Int64} {R : Nat → Nat → Option Nat} (hL : Lay R) {V : VT} (hV : WV V) (hM : MT I V) (a e h : Nat) (ha : a < vA V) (he : e < vE V) (hh : h ≤ 999) : Mt l G mX12_trainedWorth (3) 0 0 [.ref (ra G 172), .int (nI a), .int (nI e), .int (nI h)] (wd I L R) (pV (.int (pts (vev V e) (trS (vev V e) (vmk V a e) (vgo V a e) (vgi V a e) h))) (wd I L R)) := by
  refine mt_of (own := RX12) (by decide) rfl rfl (fun Z C P B => ?_)
  have D := @dc_of _ _ dX12_trainedWorth
  have he10 : e < 10 := by have := hV.1; omega
  have ha8 : a < 8 := by have := hV.2.1; omega
  have hme : mE I e = vev V e := hM.2.2.2.2.1 e he
  refine j_aload_n C (D 0 rfl) rfl ?_
  refine j_iload_n C (D 1 rfl) rfl ?_
  refine j_aload_n C (D 2 rfl) rfl ?_
  refine j_iload_n C (D 3 rfl) rfl ?_
  refine j_iload_n C (D 4 rfl) rfl ?_
  refine j_iload_n C (D 5 rfl) rfl ?_
  refine j_cVp C B k_X12_430 (rc_obj C (lit (kd := 12) (n := 48) rfl) rfl rfl) (d_trainedOf _ _ hL hV hM a e h ha he hh) rfl rfl rfl rfl ⟨Nat.le_refl _, Nat.le_refl _⟩ (D 6 rfl) ?_
  refine j_cVp C B k_X12_350 (rc_obj C (lit (kd := 12) (n := 48) rfl) rfl rfl) (d_pointsOf _ _ hL e he10 (by rw [hme]; exact hV.2.2.2.2.1 e he) _ (trS_ok (hV.2.2.2.2.2.1 a e ha he10).1 (hV.2.2.2.2.2.1 a e ha he10).2 h)) rfl rfl rfl rfl ⟨Nat.le_refl _, Nat.le_refl _⟩ (D 7 rfl) ?_
  exact j_iret C P rfl (D 8 rfl) ⟨Nat.le_refl _, Nat.le_refl _⟩ (pv_i (by rw [hme]))
set_option maxRecDepth 20000 in
theorem d_betterOf (l : Launch) (G : GT) {I : Nat → Nat → Int32} {L : Nat → Nat → Int64} {R : Nat → Nat → Option Nat} (hL : Lay R) {V : VT} (hV : WV V) (hM : MT I V) (a e : Nat) (ha : a < vA V) (he : e < vE V) : Mt l G mX12_betterOf (2) 0 0 [.ref (ra G 172), .int (nI a), .int (nI e)] (wd I L R) (pV (.int (nI (cbS V e a))) (wd I L R)) := by
  refine mt_of (own := RX12) (by decide) rfl rfl (fun Z C P B => ?_)
  have D := @dc_of _ _ dX12_betterOf
  have he10 : e < 10 := by have := hV.1; omega
  have ha8 : a < 8 := by have := hV.2.1; omega

  have hA8 := hV.2.1
  have hme : mE I e = vev V e := hM.2.2.2.2.1 e he
  have Lp : ∀ (m b : Nat) (x6 : Option Value), b + m = vA V → J Z (0, 0) 18 [some (.ref (ra G 172)), some (.int (nI a)), some (.int (nI e)), some (.int (nI (cnt (betC V e a) b))), some (.int (vmk V a e)), some (.int (nI b)), x6] [] (wd I L R) := by
    intro m
    induction m with
    | zero =>
      intro b x6 hb
      refine j_iload C (D 13 rfl) rfl ?_
      refine j_aload_n C (D 14 rfl) rfl ?_
      refine j_geti C f_X12_303 (lit (kd := 12) (n := 48) rfl) rfl rfl (D 15 rfl) ?_
      rw [hM.2.1]
      refine j_icmp_ge C  86 (D 16 rfl) (by decide) (fun h24 => ?_) (fun h24 => absurd h24 (fun z => z ((nle (by omega) (by omega)).mpr (by omega))))
      refine j_iload_n C (D 49 rfl) rfl ?_
      exact j_iret C P rfl (D 50 rfl) ⟨Nat.le_refl _, Nat.le_refl _⟩ (pv_i (by rw [cbS, show vA V = b by omega]))
    | succ m ih =>
      intro b x6 hb
      refine j_iload C (D 13 rfl) rfl ?_
      refine j_aload_n C (D 14 rfl) rfl ?_
      refine j_geti C f_X12_303 (lit (kd := 12) (n := 48) rfl) rfl rfl (D 15 rfl) ?_
      rw [hM.2.1]
      refine j_icmp_ge C  86 (D 16 rfl) (by decide) (fun h24 => absurd h24 (fun z => by rw [nle (by omega) (by omega)] at z; omega)) (fun h24 => ?_)
      refine j_aload_n C (D 17 rfl) rfl ?_
      refine j_getr C f_X12_22 (lit (kd := 12) (n := 48) rfl) rfl rfl (hL _ _ _ rfl) (D 18 rfl) ?_
      refine j_bipush C (v := nI 10) (D 19 rfl) rfl ?_
      refine j_iload C (D 20 rfl) rfl ?_
      refine j_imul C (D 21 rfl) ?_
      refine j_iload_n C (D 22 rfl) rfl ?_
      refine j_iadd C (D 23 rfl) ?_
      refine j_iald C (lit (kd := 20) (n := 80) rfl) (ix_cell' (by omega) he10) (D 24 rfl) ?_
      rw [(hM.2.2.2.2.2.1 b e (by omega) he10).1]
      refine j_istore C (D 25 rfl) rfl ?_
      refine j_iload_n C (D 26 rfl) rfl ?_
      refine j_iload C (D 27 rfl) rfl ?_
      refine j_iconst C (v := (-1)) (D 28 rfl) rfl ?_
      refine j_icmp_eq C  77 (D 29 rfl) (by decide) (fun h45 => ?_) (fun h45 => ?_)
      · refine j_iconst C (v := nI 0) (D 44 rfl) rfl ?_
        refine j_iadd C (D 45 rfl) ?_
        refine j_istore_n C (D 46 rfl) rfl ?_
        first | refine j_iinc1 C (D 47 rfl) rfl rfl ?_ | refine j_iinc C (D 47 rfl) rfl rfl rfl ?_
        refine j_goto C 18 (D 48 rfl) (by decide) ?_
        rw [show nI (cnt (betC V e a) b) + nI 0 = nI (cnt (betC V e a) (b + 1)) by rw [nI_add, cnt_f (by simp only [betC, h45]; simp)]; rfl]
        exact ih (b + 1) _ (by omega)
      · refine j_aload_n C (D 30 rfl) rfl ?_
        refine j_iload_n C (D 31 rfl) rfl ?_
        refine j_iload C (D 32 rfl) rfl ?_
        refine j_iload C (D 33 rfl) rfl ?_
        refine j_cVp C B k_X12_417 (rc_obj C (lit (kd := 12) (n := 48) rfl) rfl rfl) (d_isBetter _ _ hL e he10 _ _) rfl rfl rfl rfl ⟨Nat.le_refl _, Nat.le_refl _⟩ (D 34 rfl) ?_
        rw [hme]
        refine j_if_ne C  73 (D 35 rfl) (by decide) (fun h57 => ?_) (fun h57 => ?_)
        · refine j_iconst C (v := nI 1) (D 42 rfl) rfl ?_
          refine j_goto C 78 (D 43 rfl) (by decide) ?_
          refine j_iadd C (D 45 rfl) ?_
          refine j_istore_n C (D 46 rfl) rfl ?_
          first | refine j_iinc1 C (D 47 rfl) rfl rfl ?_ | refine j_iinc C (D 47 rfl) rfl rfl rfl ?_
          refine j_goto C 18 (D 48 rfl) (by decide) ?_
          rw [show nI (cnt (betC V e a) b) + nI 1 = nI (cnt (betC V e a) (b + 1)) by rw [nI_add, cnt_t (by simp only [betC]; rw [decide_eq_false h45, b2_ne h57]; rfl)]]
          exact ih (b + 1) _ (by omega)
        · refine j_iload C (D 36 rfl) rfl ?_
          refine j_iload C (D 37 rfl) rfl ?_
          refine j_icmp_ne C  77 (D 38 rfl) (by decide) (fun h64 => ?_) (fun h64 => ?_)
          · refine j_iconst C (v := nI 0) (D 44 rfl) rfl ?_
            refine j_iadd C (D 45 rfl) ?_
            refine j_istore_n C (D 46 rfl) rfl ?_
            first | refine j_iinc1 C (D 47 rfl) rfl rfl ?_ | refine j_iinc C (D 47 rfl) rfl rfl rfl ?_
            refine j_goto C 18 (D 48 rfl) (by decide) ?_
            rw [show nI (cnt (betC V e a) b) + nI 0 = nI (cnt (betC V e a) (b + 1)) by rw [nI_add, cnt_f (by simp only [betC]; rw [decide_eq_false h45, Bool.eq_false_iff.mpr (b2_eq h57), decide_eq_false h64]; simp)]; rfl]
            exact ih (b + 1) _ (by omega)
          · refine j_iload C (D 39 rfl) rfl ?_
            refine j_iload_n C (D 40 rfl) rfl ?_
            refine j_icmp_ge C  77 (D 41 rfl) (by decide) (fun h70 => ?_) (fun h70 => ?_)
            · refine j_iconst C (v := nI 0) (D 44 rfl) rfl ?_
              refine j_iadd C (D 45 rfl) ?_
              refine j_istore_n C (D 46 rfl) rfl ?_
              first | refine j_iinc1 C (D 47 rfl) rfl rfl ?_ | refine j_iinc C (D 47 rfl) rfl rfl rfl ?_
              refine j_goto C 18 (D 48 rfl) (by decide) ?_
              rw [show nI (cnt (betC V e a) b) + nI 0 = nI (cnt (betC V e a) (b + 1)) by rw [nI_add, cnt_f (by simp only [betC]; rw [decide_eq_false h45, Bool.eq_false_iff.mpr (b2_eq h57), decide_eq_false (p := b < a) (by rw [nle (by omega) (by omega)] at h70; omega)]; simp)]; rfl]
              exact ih (b + 1) _ (by omega)
            · refine j_iconst C (v := nI 1) (D 42 rfl) rfl ?_
              refine j_goto C 78 (D 43 rfl) (by decide) ?_
              refine j_iadd C (D 45 rfl) ?_
              refine j_istore_n C (D 46 rfl) rfl ?_
              first | refine j_iinc1 C (D 47 rfl) rfl rfl ?_ | refine j_iinc C (D 47 rfl) rfl rfl rfl ?_
              refine j_goto C 18 (D 48 rfl) (by decide) ?_
              rw [show nI (cnt (betC V e a) b) + nI 1 = nI (cnt (betC V e a) (b + 1)) by rw [nI_add, cnt_t (by simp only [betC]; rw [decide_eq_false h45, decide_eq_true h64, decide_eq_true (p := b < a) (by rw [nle (by omega) (by omega)] at h70; omega)]; simp)]]
              exact ih (b + 1) _ (by omega)
  refine j_iconst C (v := nI 0) (D 0 rfl) rfl ?_
  refine j_istore_n C (D 1 rfl) rfl ?_
  refine j_aload_n C (D 2 rfl) rfl ?_
  refine j_getr C f_X12_22 (lit (kd := 12) (n := 48) rfl) rfl rfl (hL _ _ _ rfl) (D 3 rfl) ?_
  refine j_bipush C (v := nI 10) (D 4 rfl) rfl ?_
  refine j_iload_n C (D 5 rfl) rfl ?_
  refine j_imul C (D 6 rfl) ?_
  refine j_iload_n C (D 7 rfl) rfl ?_
  refine j_iadd C (D 8 rfl) ?_
  refine j_iald C (lit (kd := 20) (n := 80) rfl) (ix_cell' ha8 he10) (D 9 rfl) ?_
  rw [(hM.2.2.2.2.2.1 a e ha he10).1]
  refine j_istore C (D 10 rfl) rfl ?_
  refine j_iconst C (v := nI 0) (D 11 rfl) rfl ?_
  refine j_istore C (D 12 rfl) rfl ?_
  exact Lp (vA V) 0 _ (by omega)
/-- b leads among the first n -/
def ldr (V : VT) (e n b : Nat) : Prop := b < n ∧ ¬ vmk V b e = -1 ∧ (∀ j, j < n → ¬ vmk V j e = -1 → ¬ betB (vev V e) (vmk V j e) (vmk V b e) = true) ∧ ∀ j, j < b → ¬ vmk V j e = -1 → betB (vev V e) (vmk V b e) (vmk V j e) = true
def ldI (V : VT) (e n : Nat) (x : Int32) : Prop := (x = -1 ∧ ∀ j, j < n → vmk V j e = -1) ∨ ∃ b, x = nI b ∧ ldr V e n b
theorem bet_irr (E : Nat → Int32) (m : Int32) : ¬ betB E m m = true := by unfold betB; by_cases c : E 0 = 1 <;> simp [c]
theorem bet_tr {E : Nat → Int32} {x y z : Int32} (h1 : betB E x y = true) (h2 : betB E y z = true) : betB E x z = true := by
  unfold betB at *
  by_cases c : E 0 = 1
  · rw [if_pos c] at *; rw [decide_eq_true_eq, i_lt] at *; omega
  · rw [if_neg c] at *; rw [decide_eq_true_eq, i_lt] at *; omega
theorem bet_nn {E : Nat → Int32} {x y z : Int32} (h1 : betB E x y = true) (h2 : ¬ betB E z y = true) : ¬ betB E z x = true := fun h => h2 (bet_tr h h1)
theorem bet_tot {E : Nat → Int32} {x y : Int32} (h1 : ¬ betB E x y = true) (h2 : ¬ x = y) : betB E y x = true := by
  unfold betB at *
  by_cases c : E 0 = 1
  · rw [if_pos c] at *; rw [decide_eq_true_eq, i_lt] at *; rw [i_eq] at h2; omega
  · rw [if_neg c] at *; rw [decide_eq_true_eq, i_lt] at *; rw [i_eq] at h2; omega
theorem cnt_0 {f : Nat → Bool} : ∀ {n : Nat}, (∀ i, i < n → ¬ f i = true) → cnt f n = 0
  | 0, _ => rfl
  | n + 1, h => by rw [cnt_f (h n (by omega)), cnt_0 (fun i hi => h i (by omega))]
theorem cnt_pos {f : Nat → Bool} : ∀ {n i : Nat}, i < n → f i = true → 0 < cnt f n
  | n + 1, i, h, hf => by
    by_cases e : i = n
    · subst e; rw [cnt_t hf]; omega
    · have := cnt_pos (f := f) (n := n) (i := i) (by omega) hf
      rw [cnt]; omega
theorem fst1_at {f : Nat → Bool} : ∀ {m i b : Nat}, i ≤ b → b < i + m → f b = true → (∀ j, i ≤ j → j < b → ¬ f j = true) → fst1 f m i = nI b
  | 0, i, b, h1, h2, _, _ => by omega
  | m + 1, i, b, h1, h2, h3, h4 => by
    rw [fst1]
    by_cases e : i = b
    · subst e; rw [if_pos h3]
    · rw [if_neg (h4 i (Nat.le_refl _) (by omega))]
      exact fst1_at (by omega) (by omega) h3 (fun j q1 q2 => h4 j (by omega) q2)
theorem fst1_no {f : Nat → Bool} : ∀ {m i : Nat}, (∀ j, i ≤ j → j < i + m → ¬ f j = true) → fst1 f m i = -1
  | 0, _, _ => rfl
  | m + 1, i, h => by rw [fst1, if_neg (h i (Nat.le_refl _) (by omega)), fst1_no (fun j q1 q2 => h j (by omega) (by omega))]
theorem ldI_k {V : VT} {e : Nat} {x : Int32} (hA : vA V ≤ 8) (h : ldI V e (vA V) x) : x = kthS V e 0 := by
  unfold kthS
  rcases h with ⟨rfl, h⟩ | ⟨b, rfl, h1, h2, h3, h4⟩
  · exact (fst1_no (fun j _ hj => by simp [h j (by omega)])).symm
  · refine (fst1_at (Nat.zero_le _) (by omega) ?_ (fun j _ hj => ?_)).symm
    · have hc : cbS V e b = 0 := cnt_0 (fun i hi => fun z => by
        unfold betC at z
        simp at z
        obtain ⟨z1, z2 | z2⟩ := z
        · exact h3 i hi z1 z2
        · exact bet_irr _ _ (by have := h4 i z2.2 z1; rw [z2.1] at this; exact this))
      simp [h2, hc]; rfl
    · intro z
      simp at z
      have hb := h4 j hj z.1
      have : 0 < cbS V e j := cnt_pos (i := b) h1 (by unfold betC; simp [h2, hb])
      have hle := cnt_le (betC V e j) (vA V)
      have z2 := z.2
      rw [i_eq, nI_int (by unfold cbS; omega), i0] at z2
      omega
theorem ldI_s0 {V : VT} {e n : Nat} {x : Int32} (h : ldI V e n x) (hm : vmk V n e = -1) : ldI V e (n + 1) x := by
  rcases h with ⟨rfl, h⟩ | ⟨b, rfl, h1, h2, h3, h4⟩
  · exact Or.inl ⟨rfl, fun j hj => if q : j = n then by rw [q]; exact hm else h j (by omega)⟩
  · exact Or.inr ⟨b, rfl, by omega, h2, fun j hj hj2 => if q : j = n then by rw [q] at hj2; exact absurd hm hj2 else h3 j (by omega) hj2, h4⟩
theorem ldI_n {V : VT} {e n : Nat} (h : ∀ j, j < n → vmk V j e = -1) (hm : ¬ vmk V n e = -1) : ldI V e (n + 1) (nI n) :=
  Or.inr ⟨n, rfl, by omega, hm, fun j hj hj2 => if q : j = n then by rw [q]; exact bet_irr _ _ else absurd (h j (by omega)) hj2, fun j hj hj2 => absurd (h j hj) hj2⟩
theorem ldI_b {V : VT} {e n b : Nat} (h : ldr V e n b) (hm : ¬ vmk V n e = -1) (hb : betB (vev V e) (vmk V n e) (vmk V b e) = true) : ldI V e (n + 1) (nI n) :=
  Or.inr ⟨n, rfl, by omega, hm, fun j hj hj2 => if q : j = n then by rw [q]; exact bet_irr _ _ else bet_nn hb (h.2.2.1 j (by omega) hj2), fun j hj hj2 => by
    by_cases q : vmk V j e = vmk V b e
    · rw [q]; exact hb
    · exact bet_tr hb (bet_tot (h.2.2.1 j hj hj2) q)⟩
theorem ldI_k' {V : VT} {e n b : Nat} (h : ldr V e n b) (hb : ¬ betB (vev V e) (vmk V n e) (vmk V b e) = true) : ldI V e (n + 1) (nI b) :=
  Or.inr ⟨b, rfl, by have := h.1; omega, h.2.1, fun j hj hj2 => if q : j = n then by rw [q]; exact hb else h.2.2.1 j (by omega) hj2, h.2.2.2⟩
set_option maxRecDepth 20000 in
theorem d_leader (l : Launch) (G : GT) {I : Nat → Nat → Int32} {L : Nat → Nat → Int64} {R : Nat → Nat → Option Nat} (hL : Lay R) {V : VT} (hV : WV V) (hM : MT I V) (e : Nat) (he : e < vE V) : Mt l G mX12_leader (2) 0 0 [.ref (ra G 172), .int (nI e)] (wd I L R) (pV (.int (kthS V e 0)) (wd I L R)) := by
  refine mt_of (own := RX12) (by decide) rfl rfl (fun Z C P B => ?_)
  have D := @dc_of _ _ dX12_leader
  have he10 : e < 10 := by have := hV.1; omega
  have hA8 := hV.2.1
  have hme : mE I e = vev V e := hM.2.2.2.2.1 e he
  have Lp : ∀ (m a : Nat) (x : Int32) (x4 : Option Value), a + m = vA V → ldI V e a x → J Z (0, 0) 4 [some (.ref (ra G 172)), some (.int (nI e)), some (.int x), some (.int (nI a)), x4] [] (wd I L R) := by
    intro m
    induction m with
    | zero =>
      intro a x x4 ha hx
      refine j_iload_n C (D 4 rfl) rfl ?_
      refine j_aload_n C (D 5 rfl) rfl ?_
      refine j_geti C f_X12_303 (lit (kd := 12) (n := 48) rfl) rfl rfl (D 6 rfl) ?_
      rw [hM.2.1]
      refine j_icmp_ge C  65 (D 7 rfl) (by decide) (fun h9 => ?_) (fun h9 => absurd h9 (fun z => z ((nle (by omega) (by omega)).mpr (by omega))))
      refine j_iload_n C (D 40 rfl) rfl ?_
      exact j_iret C P rfl (D 41 rfl) ⟨Nat.le_refl _, Nat.le_refl _⟩ (pv_i (ldI_k hA8 (by rw [show vA V = a by omega]; exact hx)))
    | succ m ih =>
      intro a x x4 ha hx
      refine j_iload_n C (D 4 rfl) rfl ?_
      refine j_aload_n C (D 5 rfl) rfl ?_
      refine j_geti C f_X12_303 (lit (kd := 12) (n := 48) rfl) rfl rfl (D 6 rfl) ?_
      rw [hM.2.1]
      refine j_icmp_ge C  65 (D 7 rfl) (by decide) (fun h9 => absurd h9 (fun z => by rw [nle (by omega) (by omega)] at z; omega)) (fun h9 => ?_)
      refine j_aload_n C (D 8 rfl) rfl ?_
      refine j_getr C f_X12_22 (lit (kd := 12) (n := 48) rfl) rfl rfl (hL _ _ _ rfl) (D 9 rfl) ?_
      refine j_bipush C (v := nI 10) (D 10 rfl) rfl ?_
      refine j_iload_n C (D 11 rfl) rfl ?_
      refine j_imul C (D 12 rfl) ?_
      refine j_iload_n C (D 13 rfl) rfl ?_
      refine j_iadd C (D 14 rfl) ?_
      refine j_iald C (lit (kd := 20) (n := 80) rfl) (ix_cell' (by omega) he10) (D 15 rfl) ?_
      rw [(hM.2.2.2.2.2.1 a e (by omega) he10).1]
      refine j_istore C (D 16 rfl) rfl ?_
      refine j_iload C (D 17 rfl) rfl ?_
      refine j_iconst C (v := (-1)) (D 18 rfl) rfl ?_
      refine j_icmp_eq C  59 (D 19 rfl) (by decide) (fun h28 => ?_) (fun h28 => ?_)
      · first | refine j_iinc1 C (D 38 rfl) rfl rfl ?_ | refine j_iinc C (D 38 rfl) rfl rfl rfl ?_
        refine j_goto C 4 (D 39 rfl) (by decide) ?_
        exact ih (a + 1) _ _ (by omega) (ldI_s0 hx h28)
      · refine j_iload_n C (D 20 rfl) rfl ?_
        refine j_iconst C (v := (-1)) (D 21 rfl) rfl ?_
        refine j_icmp_eq C  57 (D 22 rfl) (by decide) (fun h33 => ?_) (fun h33 => ?_)
        · refine j_iload_n C (D 36 rfl) rfl ?_
          refine j_istore_n C (D 37 rfl) rfl ?_
          first | refine j_iinc1 C (D 38 rfl) rfl rfl ?_ | refine j_iinc C (D 38 rfl) rfl rfl rfl ?_
          refine j_goto C 4 (D 39 rfl) (by decide) ?_
          exact ih (a + 1) _ _ (by omega) (hx.elim (fun q => ldI_n q.2 h28) (fun q => by obtain ⟨b, hb, hb2⟩ := q; have := hb2.1; rw [hb] at h33; exact absurd (i_eq.mp h33) (by rw [nI_int (by omega)]; show ¬ (b : Int) = -1; omega)))
        · obtain ⟨b, rfl, hb2⟩ := hx.resolve_left (fun q => h33 q.1)
          have hbv := hb2.1
          refine j_aload_n C (D 23 rfl) rfl ?_
          refine j_iload_n C (D 24 rfl) rfl ?_
          refine j_iload C (D 25 rfl) rfl ?_
          refine j_aload_n C (D 26 rfl) rfl ?_
          refine j_getr C f_X12_22 (lit (kd := 12) (n := 48) rfl) rfl rfl (hL _ _ _ rfl) (D 27 rfl) ?_
          refine j_bipush C (v := nI 10) (D 28 rfl) rfl ?_
          refine j_iload_n C (D 29 rfl) rfl ?_
          refine j_imul C (D 30 rfl) ?_
          refine j_iload_n C (D 31 rfl) rfl ?_
          refine j_iadd C (D 32 rfl) ?_
          refine j_iald C (lit (kd := 20) (n := 80) rfl) (ix_cell' (by omega) he10) (D 33 rfl) ?_
          rw [(hM.2.2.2.2.2.1 b e (by omega) he10).1]
          refine j_cVp C B k_X12_417 (rc_obj C (lit (kd := 12) (n := 48) rfl) rfl rfl) (d_isBetter _ _ hL e he10 _ _) rfl rfl rfl rfl ⟨Nat.le_refl _, Nat.le_refl _⟩ (D 34 rfl) ?_
          rw [hme]
          refine j_if_eq C  59 (D 35 rfl) (by decide) (fun h54 => ?_) (fun h54 => ?_)
          · first | refine j_iinc1 C (D 38 rfl) rfl rfl ?_ | refine j_iinc C (D 38 rfl) rfl rfl rfl ?_
            refine j_goto C 4 (D 39 rfl) (by decide) ?_
            exact ih (a + 1) _ _ (by omega) (ldI_k' hb2 (b2_eq h54))
          · refine j_iload_n C (D 36 rfl) rfl ?_
            refine j_istore_n C (D 37 rfl) rfl ?_
            first | refine j_iinc1 C (D 38 rfl) rfl rfl ?_ | refine j_iinc C (D 38 rfl) rfl rfl rfl ?_
            refine j_goto C 4 (D 39 rfl) (by decide) ?_
            exact ih (a + 1) _ _ (by omega) (ldI_b hb2 h28 (b2_ne h54))
  refine j_iconst C (v := (-1)) (D 0 rfl) rfl ?_
  refine j_istore_n C (D 1 rfl) rfl ?_
  refine j_iconst C (v := nI 0) (D 2 rfl) rfl ?_
  refine j_istore_n C (D 3 rfl) rfl ?_
  exact Lp (vA V) 0 _ _ (by omega) (Or.inl ⟨rfl, fun j hj => absurd hj (by omega)⟩)

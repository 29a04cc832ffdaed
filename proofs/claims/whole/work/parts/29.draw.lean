/-! DRAWS -/
def nx (x : Nat) : Nat := (1103515245 * x + 12345) % 2147483648
theorem nx_lt (x : Nat) : nx x < 2147483648 := Nat.mod_lt _ (by decide)
theorem lN_and {n : Nat} (h : n < 9223372036854775808) : lN n &&& 2147483647 = lN (n % 2147483648) := by
  apply Int64.toBitVec_inj.mp
  apply BitVec.eq_of_toNat_eq
  rw [Int64.toBitVec_and]
  show (lN n).toBitVec.toNat &&& 2147483647 = (lN (n % 2147483648)).toBitVec.toNat
  have e1 : ∀ m : Nat, m < 9223372036854775808 → (lN m).toBitVec.toNat = m := fun m hm => Nat.mod_eq_of_lt (show m < 18446744073709551616 by omega)
  rw [e1 n h, e1 _ (by omega)]
  exact Nat.and_two_pow_sub_one_eq_mod n 31
theorem lN_toI (n : Nat) : (lN n).toInt32 = nI n := lN_i n
theorem nI_toL {n : Nat} (h : n < 2147483648) : (nI n).toInt64 = lN n := nI_l h
/-- held within 0 .. 99999 -/
def clS (t : Int32) : Int32 := if 0 < (if t < 99999 then t else 99999) then (if t < 99999 then t else 99999) else 0
theorem clS_rng (t : Int32) : 0 ≤ (clS t).toInt ∧ (clS t).toInt ≤ 99999 := by
  unfold clS
  by_cases c : t < 99999
  · rw [if_pos c]
    rw [i_lt, i99] at c
    by_cases q : 0 < t
    · rw [if_pos q]; rw [i_lt, i0] at q; omega
    · rw [if_neg q, i0]; omega
  · rw [if_neg c]; decide
def swS (mk : Int32) (sp x : Nat) : Int32 := clS (mk + nI (nx x / 64 % (2 * sp + 1)) - nI sp)
def spN (V : VT) (e : Nat) : Nat := (vev V e 5).toInt.toNat
def xr (V : VT) (a : Nat) : Nat → Nat → Nat
  | 0, x => x
  | n + 1, x => if vmk V a n = -1 then xr V a n x else nx (xr V a n x)
def xa (V : VT) : Nat → Nat → Nat
  | 0, s => s
  | n + 1, s => xr V n (vE V) (xa V n s)
def drS (V : VT) (s a e : Nat) : Int32 := if vmk V a e = -1 then -1 else swS (vmk V a e) (spN V e) (xr V a e (xa V a s))
theorem xr_lt (V : VT) (a : Nat) : ∀ n x, x < 2147483648 → xr V a n x < 2147483648
  | 0, x, h => h
  | n + 1, x, h => by
    rw [xr]
    by_cases c : vmk V a n = -1
    · rw [if_pos c]; exact xr_lt V a n x h
    · rw [if_neg c]; exact nx_lt _
theorem xa_lt (V : VT) : ∀ n s, s < 2147483648 → xa V n s < 2147483648
  | 0, s, h => h
  | n + 1, s, h => xr_lt V n (vE V) _ (xa_lt V n s h)
theorem drS_ok (V : VT) (s a e : Nat) : okM (drS V s a e) := by
  unfold drS
  by_cases c : vmk V a e = -1
  · rw [if_pos c]; exact Or.inl rfl
  · rw [if_neg c]; exact Or.inr (clS_rng _)
theorem spN_i {V : VT} (hV : WV V) {e : Nat} (he : e < vE V) : vev V e 5 = nI (spN V e) ∧ spN V e ≤ 999 := by
  have h := (hV.2.2.2.2.1 e he).2.2.1
  unfold spN
  refine ⟨?_, by omega⟩
  rw [i_eq, nI_int (by omega)]
  omega
theorem lA : (1103515245 : Int64) = lN 1103515245 := rfl
theorem lB : (12345 : Int64) = lN 12345 := rfl
theorem lC : (64 : Int64) = lN 64 := rfl
theorem lD : (2147483648 : Int64) = lN 2147483648 := rfl
theorem ne_lN {n : Nat} (h : 0 < n) (h2 : n < 2147483648) : ¬ lN n = 0 := fun z => by
  have := l_eq.mp z
  rw [lNt h2] at this
  have e : (0 : Int64).toInt = 0 := by decide
  omega
set_option maxRecDepth 20000 in
theorem c_draw (l : Launch) (G : GT) {I : Nat → Nat → Int32} {L : Nat → Nat → Int64} {R : Nat → Nat → Option Nat} (hL : Lay R) (x m : Nat) (hx : L 98 5 = lN x) (hx2 : x < 2147483648) (hm : 1 ≤ m) (hm2 : m ≤ 10000) : Mt l G mX8_draw (0) 0 0 [.ref (ra G 98), .int (nI m)] (wd I L R) (fun r w' => r = some (.int (nI (nx x / 64 % m))) ∧ w' = wd I (up2 L 98 5 (lN (nx x))) R) := by
  refine mt_of (own := RX8) (by decide) rfl rfl (fun Z C P B => ?_)
  have D := @dc_of _ _ dX8_draw
  have hnx := nx_lt x
  refine j_aload_n C (D 0 rfl) rfl ?_
  refine j_ldc2_w C (v := 1103515245) (D 1 rfl) n_X8_93 ?_
  refine j_aload_n C (D 2 rfl) rfl ?_
  refine j_getl C f_X8_54 (lit (kd := 8) (n := 6) rfl) rfl rfl (D 3 rfl) ?_
  rw [hx]
  refine j_lmul C (D 4 rfl) ?_
  rw [lA, lN_mul]
  refine j_ldc2_w C (v := 12345) (D 5 rfl) n_X8_95 ?_
  refine j_ladd C (D 6 rfl) ?_
  rw [lB, lN_add]
  refine j_ldc2_w C (v := 2147483647) (D 7 rfl) n_X8_97 ?_
  refine j_land C (D 8 rfl) ?_
  rw [lN_and (by omega), show (1103515245 * x + 12345) % 2147483648 = nx x from rfl]
  refine j_putl C f_X8_54 (lit (kd := 8) (n := 6) rfl) rfl rfl (D 9 rfl) ?_
  refine j_iload_n C (D 10 rfl) rfl ?_
  refine j_iconst C (v := nI 1) (D 11 rfl) rfl ?_
  refine j_icmp_ge C  29 (D 12 rfl) (by decide) (fun h22 => ?_) (fun h22 => absurd h22 (fun z => z ((nle (by omega) (by omega)).mpr hm)))
  refine j_aload_n C (D 15 rfl) rfl ?_
  refine j_getl C f_X8_54 (lit (kd := 8) (n := 6) rfl) rfl rfl (D 16 rfl) ?_
  rw [up2_same]
  refine j_ldc2_w C (v := 64) (D 17 rfl) n_X8_99 ?_
  refine j_ldiv C (D 18 rfl) (by decide) ?_
  rw [lC, pk_lDiv (by omega) (by decide) (by decide)]
  refine j_iload_n C (D 19 rfl) rfl ?_
  refine j_i2l C (D 20 rfl) ?_
  rw [nI_toL (by omega)]
  refine j_lrem C (D 21 rfl) (ne_lN (by omega) (by omega)) ?_
  rw [pk_lRem (by omega) (by omega) (by omega)]
  refine j_l2i C (D 22 rfl) ?_
  rw [lN_toI]
  exact j_iret C P rfl (D 23 rfl) ⟨Nat.le_refl _, Nat.le_refl _⟩ ⟨rfl, rfl⟩
set_option maxRecDepth 20000 in
theorem c_swung (l : Launch) (G : GT) {I : Nat → Nat → Int32} {L : Nat → Nat → Int64} {R : Nat → Nat → Option Nat} (hL : Lay R) (x sp : Nat) (mk : Int32) (hx : L 98 5 = lN x) (hx2 : x < 2147483648) (hs : sp ≤ 999) : Mt l G mX8_swung (1) 0 0 [.ref (ra G 98), .int mk, .int (nI sp)] (wd I L R) (fun r w' => r = some (.int (swS mk sp x)) ∧ w' = wd I (up2 L 98 5 (lN (nx x))) R) := by
  refine mt_of (own := RX8) (by decide) rfl rfl (fun Z C P B => ?_)
  have D := @dc_of _ _ dX8_swung
  refine j_iload_n C (D 0 rfl) rfl ?_
  refine j_aload_n C (D 1 rfl) rfl ?_
  refine j_iconst C (v := nI 2) (D 2 rfl) rfl ?_
  refine j_iload_n C (D 3 rfl) rfl ?_
  refine j_imul C (D 4 rfl) ?_
  refine j_iconst C (v := nI 1) (D 5 rfl) rfl ?_
  refine j_iadd C (D 6 rfl) ?_
  rw [pk_mul, nI_add]
  refine j_callV C B k_X8_80 (rc_obj C (lit (kd := 8) (n := 6) rfl) rfl rfl) (c_draw _ _ hL x (2 * sp + 1) hx hx2 (by omega) (by omega)) rfl rfl rfl rfl ⟨Nat.le_refl _, Nat.le_refl _⟩ (D 7 rfl) ?_
  rintro r w' ⟨rfl, rfl⟩
  refine j_iadd C (D 8 rfl) ?_
  refine j_iload_n C (D 9 rfl) rfl ?_
  refine j_isub C (D 10 rfl) ?_
  refine j_istore_n C (D 11 rfl) rfl ?_
  refine j_iconst C (v := nI 0) (D 12 rfl) rfl ?_
  refine j_ldc C (v := 99999) (D 13 rfl) n_X8_84 ?_
  refine j_iload_n C (D 14 rfl) rfl ?_
  refine j_mmin C B k_X8_85 rfl rfl ⟨Nat.le_refl _, Nat.le_refl _⟩ (D 15 rfl) ?_
  refine j_mmax C B k_X8_90 rfl rfl ⟨Nat.le_refl _, Nat.le_refl _⟩ (D 16 rfl) ?_
  exact j_iret C P rfl (D 17 rfl) ⟨Nat.le_refl _, Nat.le_refl _⟩ ⟨rfl, rfl⟩
def Fr100 (I I' : Nat → Nat → Int32) : Prop := ∀ b j, b ≠ 100 → I' b j = I b j
theorem Fr100.S {I I' : Nat → Nat → Int32} (h : Fr100 I I') : FrS I I' := fun b j hb => h b j (by unfold scr at hb; omega)
set_option maxRecDepth 20000 in
theorem c_readDrawn (l : Launch) (G : GT) {c : Nat} (hc : isC c) {I : Nat → Nat → Int32} {L : Nat → Nat → Int64} {R : Nat → Nat → Option Nat} (hL : Lay R) {V : VT} (hV : WV V) (hT : CT I c V) (s : Nat) (hs : s < 2147483648) : Mt l G mX8_readDrawn (5) 0 0 [.ref (ra G 98), .ref (ra G c), .int (nI s)] (wd I L R) (fun r w' => r = none ∧ ∃ I' L', w' = wd I' L' R ∧ FrS I I' ∧ S0 I' V (ptM V (drS V s)) (gM (drS V s)) ∧ SP I' V (ptM V (drS V s)) (gM (drS V s)) ∧ SF I' V (ptM V (drS V s))) := by
  refine mt_of (own := RX8) (by decide) rfl rfl (fun Z C P B => ?_)
  have D := @dc_of _ _ dX8_readDrawn
  have hA8 := hV.2.1
  have hE10 := hV.1
  have Lp : ∀ (m a : Nat) (x4 x5 : Option Value) (I1 : Nat → Nat → Int32) (L1 : Nat → Nat → Int64), a + m = vA V → Fr100 I I1 → L1 98 5 = lN (xa V a s) → (∀ b e, b < a → e < vE V → I1 100 (b * 10 + e) = drS V s b e) → J Z (0, 0) 8 [some (.ref (ra G 98)), some (.ref (ra G c)), some (.int (nI s)), some (.int (nI a)), x4, x5] [] (wd I1 L1 R) := by
    intro m
    induction m with
    | zero =>
      intro a x4 x5 I1 L1 ha hF hx hr
      refine j_iload_n C (D 6 rfl) rfl ?_
      refine j_aload_n C (D 7 rfl) rfl ?_
      refine j_geti C f_X8_22 (sC0 hc) rfl rfl (D 8 rfl) ?_
      rw [(CT_fr hc hT hF.S hE10).2.1]
      refine j_icmp_ge C  86 (D 9 rfl) (by decide) (fun h13 => ?_) (fun h13 => absurd h13 (fun z => z ((nle (by omega) (by omega)).mpr (by omega))))
      refine j_aload_n C (D 44 rfl) rfl ?_
      refine j_aload_n C (D 45 rfl) rfl ?_
      refine j_aload_n C (D 46 rfl) rfl ?_
      refine j_getr C f_X8_17 (lit (kd := 8) (n := 6) rfl) rfl rfl (hL _ _ _ rfl) (D 47 rfl) ?_
      refine j_callV C B k_X8_77 (rc_obj C (lit (kd := 8) (n := 6) rfl) rfl rfl) (c_sread _ _ hc hL hV (CT_fr hc hT hF.S hE10) 100 (drS V s) (lit (kd := 20) (n := 80) rfl) (Or.inr rfl) (fun b e hb he => ⟨hr b e (by omega) he, drS_ok V s b e⟩)) rfl rfl rfl rfl ⟨Nat.le_refl _, Nat.le_refl _⟩ (D 48 rfl) ?_
      rintro r w' ⟨rfl, I2, rfl, hF2, k1, k2, k3⟩
      exact j_vret C P rfl (D 49 rfl) ⟨Nat.le_refl _, Nat.le_refl _⟩ ⟨rfl, I2, L1, rfl, hF.S.tr (hF2.S hc), k1, k2, k3⟩
    | succ m ih =>
      intro a x4 x5 I1 L1 ha hF hx hr
      have ha8 : a < 8 := by omega
      have Lp2 : ∀ (m2 e : Nat) (x5 : Option Value) (I1 : Nat → Nat → Int32) (L1 : Nat → Nat → Int64), e + m2 = vE V → Fr100 I I1 → L1 98 5 = lN (xr V a e (xa V a s)) → (∀ b e, b < a → e < vE V → I1 100 (b * 10 + e) = drS V s b e) → (∀ e2, e2 < e → I1 100 (a * 10 + e2) = drS V s a e2) → J Z (0, 0) 19 [some (.ref (ra G 98)), some (.ref (ra G c)), some (.int (nI s)), some (.int (nI a)), some (.int (nI e)), x5] [] (wd I1 L1 R) := by
        intro m2
        induction m2 with
        | zero =>
          intro e x5 I1 L1 he hF hx hr hr2
          refine j_iload C (D 12 rfl) rfl ?_
          refine j_aload_n C (D 13 rfl) rfl ?_
          refine j_geti C f_X8_29 (sC0 hc) rfl rfl (D 14 rfl) ?_
          rw [(CT_fr hc hT hF.S hE10).1]
          refine j_icmp_ge C  80 (D 15 rfl) (by decide) (fun h25 => ?_) (fun h25 => absurd h25 (fun z => z ((nle (by omega) (by omega)).mpr (by omega))))
          first | refine j_iinc1 C (D 42 rfl) rfl rfl ?_ | refine j_iinc C (D 42 rfl) rfl rfl rfl ?_
          refine j_goto C 8 (D 43 rfl) (by decide) ?_
          exact ih (a + 1) _ _ I1 L1 (by omega) hF (by rw [hx, show e = vE V by omega]; rfl) (fun b e2 hb he2 => by
            by_cases q : b = a
            · rw [q]; exact hr2 e2 (by omega)
            · exact hr b e2 (by omega) he2)
        | succ m2 ih2 =>
          intro e x5 I1 L1 he hF hx hr hr2
          have he10 : e < 10 := by omega
          refine j_iload C (D 12 rfl) rfl ?_
          refine j_aload_n C (D 13 rfl) rfl ?_
          refine j_geti C f_X8_29 (sC0 hc) rfl rfl (D 14 rfl) ?_
          rw [(CT_fr hc hT hF.S hE10).1]
          refine j_icmp_ge C  80 (D 15 rfl) (by decide) (fun h25 => absurd h25 (fun z => by rw [nle (by omega) (by omega)] at z; omega)) (fun h25 => ?_)
          refine j_aload_n C (D 16 rfl) rfl ?_
          refine j_iload_n C (D 17 rfl) rfl ?_
          refine j_iload C (D 18 rfl) rfl ?_
          refine j_cVp C B k_X8_58 (rc_obj C (sC0 hc) rfl rfl) (c_markOf _ _ hc hL hV (CT_fr hc hT hF.S hE10) a e (by omega) he10) rfl rfl rfl rfl ⟨Nat.le_refl _, Nat.le_refl _⟩ (D 19 rfl) ?_
          refine j_istore C (D 20 rfl) rfl ?_
          refine j_aload_n C (D 21 rfl) rfl ?_
          refine j_getr C f_X8_17 (lit (kd := 8) (n := 6) rfl) rfl rfl (hL _ _ _ rfl) (D 22 rfl) ?_
          refine j_iload_n C (D 23 rfl) rfl ?_
          refine j_iload C (D 24 rfl) rfl ?_
          refine j_cSNp C B k_X8_62 (c_cellOf _ _ _ _ _) rfl rfl rfl rfl ⟨Nat.le_refl _, Nat.le_refl _⟩ (D 25 rfl) ?_
          refine j_iload C (D 26 rfl) rfl ?_
          refine j_iconst C (v := (-1)) (D 27 rfl) rfl ?_
          refine j_icmp_ne C  57 (D 28 rfl) (by decide) (fun h50 => ?_) (fun h50 => ?_)
          · refine j_aload_n C (D 31 rfl) rfl ?_
            refine j_iload C (D 32 rfl) rfl ?_
            refine j_aload_n C (D 33 rfl) rfl ?_
            refine j_getr C f_X8_65 (sC0 hc) rfl rfl (hL _ _ _ (rC0 hc)) (D 34 rfl) ?_
            refine j_iload C (D 35 rfl) rfl ?_
            refine j_aald C (kd := 1) (sC1 hc) rfl (ix_n he10 (by decide)) (hL _ _ _ (rCT hc he10)) (D 36 rfl) ?_
            refine j_geti C f_X8_69 (sT0 (isT_of hc he10)) rfl rfl (D 37 rfl) ?_
            rw [((CT_fr hc hT hF.S hE10).2.2.2.2.1 e (by omega)).2.2.2.1, (spN_i hV (by omega)).1]
            refine j_callV C B k_X8_74 (rc_obj C (lit (kd := 8) (n := 6) rfl) rfl rfl) (c_swung _ _ hL (xr V a e (xa V a s)) (spN V e) _ hx (xr_lt V a e _ (xa_lt V a s hs)) (spN_i hV (by omega)).2) rfl rfl rfl rfl ⟨Nat.le_refl _, Nat.le_refl _⟩ (D 38 rfl) ?_
            rintro r w' ⟨rfl, rfl⟩
            refine j_iast C (lit (kd := 20) (n := 80) rfl) (ix_cell ha8 he10) (D 39 rfl) ?_
            first | refine j_iinc1 C (D 40 rfl) rfl rfl ?_ | refine j_iinc C (D 40 rfl) rfl rfl rfl ?_
            refine j_goto C 19 (D 41 rfl) (by decide) ?_
            exact ih2 (e + 1) _ _ _ (by omega) (fun b j q => by rw [up2_i (by omega)]; exact hF b j q) (by rw [up2_same, xr, if_neg h50]) (fun b e2 hb he2 => by rw [up2_i (by omega)]; exact hr b e2 hb he2) (fun e2 he2 => by
              by_cases q : e2 = e
              · rw [q, up2_same, drS, if_neg h50]
              · rw [up2_i (by omega)]; exact hr2 e2 (by omega))
          · refine j_iconst C (v := (-1)) (D 29 rfl) rfl ?_
            refine j_goto C 73 (D 30 rfl) (by decide) ?_
            refine j_iast C (lit (kd := 20) (n := 80) rfl) (ix_cell ha8 he10) (D 39 rfl) ?_
            first | refine j_iinc1 C (D 40 rfl) rfl rfl ?_ | refine j_iinc C (D 40 rfl) rfl rfl rfl ?_
            refine j_goto C 19 (D 41 rfl) (by decide) ?_
            exact ih2 (e + 1) _ _ _ (by omega) (fun b j q => by rw [up2_i (by omega)]; exact hF b j q) (by rw [hx, xr, if_pos h50]) (fun b e2 hb he2 => by rw [up2_i (by omega)]; exact hr b e2 hb he2) (fun e2 he2 => by
              by_cases q : e2 = e
              · rw [q, up2_same, drS, if_pos h50]
              · rw [up2_i (by omega)]; exact hr2 e2 (by omega))
      refine j_iload_n C (D 6 rfl) rfl ?_
      refine j_aload_n C (D 7 rfl) rfl ?_
      refine j_geti C f_X8_22 (sC0 hc) rfl rfl (D 8 rfl) ?_
      rw [(CT_fr hc hT hF.S hE10).2.1]
      refine j_icmp_ge C  86 (D 9 rfl) (by decide) (fun h13 => absurd h13 (fun z => by rw [nle (by omega) (by omega)] at z; omega)) (fun h13 => ?_)
      refine j_iconst C (v := nI 0) (D 10 rfl) rfl ?_
      refine j_istore C (D 11 rfl) rfl ?_
      exact Lp2 (vE V) 0 _ I1 L1 (by omega) hF hx hr (fun e he => absurd he (by omega))
  refine j_aload_n C (D 0 rfl) rfl ?_
  refine j_iload_n C (D 1 rfl) rfl ?_
  refine j_i2l C (D 2 rfl) ?_
  rw [nI_toL hs]
  refine j_putl C f_X8_54 (lit (kd := 8) (n := 6) rfl) rfl rfl (D 3 rfl) ?_
  refine j_iconst C (v := nI 0) (D 4 rfl) rfl ?_
  refine j_istore_n C (D 5 rfl) rfl ?_
  exact Lp (vA V) 0 _ _ I _ (by omega) (fun _ _ _ => rfl) (by rw [up2_same]; rfl) (fun b e hb he => absurd hb (by omega))

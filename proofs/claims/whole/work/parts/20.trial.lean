/-! TRIAL: what the class' object of an EVENT answers -/
def TR (I : Nat → Nat → Int32) (t : Nat) (E : Nat → Int32) : Prop := I t 0 = E 0 ∧ I t 1 = E 1 ∧ I t 2 = E 2 ∧ I t 5 = E 5 ∧ (E 2 = 3 → I t 6 = E 3 ∧ ∀ k : Nat, (k : Int) < (E 3).toInt → I (t + 1) k = E (6 + 2 * k) ∧ I (t + 2) k = E (6 + 2 * k + 1)) ∧ (¬ E 2 = 3 → I t 3 = E 3 ∧ I t 4 = E 4)
theorem minL {q : Int64} {Q : Int} (h : q.toInt = Q) (h0 : 0 ≤ Q) : (if (2000 : Int64) < q then (2000 : Int64) else q).toInt32 = Int32.ofInt (min 2000 Q) := by
  have e2 : (2000 : Int64).toInt = 2000 := by decide
  by_cases c : (2000 : Int64) < q
  · rw [if_pos c]
    rw [l_lt, e2, h] at c
    rw [show min 2000 Q = 2000 by omega]
    decide
  · rw [if_neg c]
    rw [l_lt, e2, h] at c
    apply eq_ofI
    rw [l_i (by omega) (by omega), h]
    omega
theorem qL {a c : Int32} {b : Int64} {B : Int} (hb : b.toInt = B) (h0 : 0 ≤ B) (h1 : B ≤ 100000000000) (ha : 0 ≤ a.toInt) (ha2 : a.toInt ≤ 9999) (hc : 0 < c.toInt) : (a.toInt64 * b / c.toInt64).toInt = a.toInt * B / c.toInt := by
  have p0 : 0 ≤ a.toInt * B := Int.mul_nonneg ha h0
  have p1 : a.toInt * B ≤ 9999 * 100000000000 := Int.mul_le_mul ha2 h1 h0 (by omega)
  have m : (a.toInt64 * b).toInt = a.toInt * B := by rw [l_mul (by rw [i_l, hb]; omega) (by rw [i_l, hb]; omega), i_l, hb]
  rw [l_div (by rw [m]; exact p0) (by rw [i_l]; exact hc), m, i_l]
theorem ne0L {x : Int32} (h : 1 ≤ x.toInt) : ¬ x.toInt64 = 0 := fun z => by
  have := l_eq.mp z
  rw [i_l, show (0 : Int64).toInt = 0 by decide] at this
  omega
theorem ne0I {x : Int32} (h : 1 ≤ x.toInt) : ¬ x = 0 := fun z => by
  have := i_eq.mp z
  rw [show (0 : Int32).toInt = 0 by decide] at this
  omega
theorem nI_i64 {n : Nat} (h : n < 2147483648) : (nI n).toInt64.toInt = n := by rw [i_l, nI_int h]
set_option maxRecDepth 20000 in
theorem c_isWithin (l : Launch) (G : GT) (w : Wd) (n lo hi : Int32) : Mt l G mX11_isWithin (0) 0 0 [.int n, .int lo, .int hi] w (pV (.int (b2 (lo ≤ n ∧ n ≤ hi))) w) := by
  refine mt_of (own := RX11) (by decide) rfl rfl (fun Z C P B => ?_)
  have D := @dc_of _ _ dX11_isWithin
  refine j_iload_n C (D 0 rfl) rfl ?_
  refine j_iload_n C (D 1 rfl) rfl ?_
  refine j_icmp_lt C  14 (D 2 rfl) (by decide) (fun h2 => ?_) (fun h2 => ?_)
  · refine j_iconst C (v := nI 0) (D 8 rfl) rfl ?_
    exact j_zret C P rfl (by first | exact isB_1 | exact isB_0) (D 9 rfl) ⟨Nat.le_refl _, Nat.le_refl _⟩ (pv_i (b2_f (fun z => by have z1 := z.1; rw [i_lt] at h2; rw [i_le] at z1; omega)))
  · refine j_iload_n C (D 3 rfl) rfl ?_
    refine j_iload_n C (D 4 rfl) rfl ?_
    refine j_icmp_gt C  14 (D 5 rfl) (by decide) (fun h7 => ?_) (fun h7 => ?_)
    · refine j_iconst C (v := nI 0) (D 8 rfl) rfl ?_
      exact j_zret C P rfl (by first | exact isB_1 | exact isB_0) (D 9 rfl) ⟨Nat.le_refl _, Nat.le_refl _⟩ (pv_i (b2_f (fun z => by have z2 := z.2; rw [i_lt] at h7; rw [i_le] at z2; omega)))
    · refine j_iconst C (v := nI 1) (D 6 rfl) rfl ?_
      refine j_goto C 15 (D 7 rfl) (by decide) ?_
      exact j_zret C P rfl (by first | exact isB_1 | exact isB_0) (D 9 rfl) ⟨Nat.le_refl _, Nat.le_refl _⟩ (pv_i (b2_t ⟨by rw [i_lt] at h2; rw [i_le]; omega, by rw [i_lt] at h7; rw [i_le]; omega⟩))
set_option maxRecDepth 20000 in
theorem c_cellOf (l : Launch) (G : GT) (w : Wd) (a e : Int32) : Mt l G mX11_cellOf (0) 0 0 [.int a, .int e] w (pV (.int (a * nI 10 + e)) w) := by
  refine mt_of (own := RX11) (by decide) rfl rfl (fun Z C P B => ?_)
  have D := @dc_of _ _ dX11_cellOf
  refine j_iload_n C (D 0 rfl) rfl ?_
  refine j_bipush C (v := nI 10) (D 1 rfl) rfl ?_
  refine j_imul C (D 2 rfl) ?_
  refine j_iload_n C (D 3 rfl) rfl ?_
  refine j_iadd C (D 4 rfl) ?_
  exact j_iret C P rfl (D 5 rfl) ⟨Nat.le_refl _, Nat.le_refl _⟩ (pv_i rfl)
set_option maxRecDepth 20000 in
theorem c_isMark (l : Launch) (G : GT) (w : Wd) (n : Int32) : Mt l G mX11_isMark (1) 0 0 [.int n] w (pV (.int (b2 (0 ≤ n ∧ n ≤ 99999))) w) := by
  refine mt_of (own := RX11) (by decide) rfl rfl (fun Z C P B => ?_)
  have D := @dc_of _ _ dX11_isMark
  refine j_iload_n C (D 0 rfl) rfl ?_
  refine j_iconst C (v := nI 0) (D 1 rfl) rfl ?_
  refine j_ldc C (v := 99999) (D 2 rfl) n_X11_236 ?_
  refine j_cSp C B k_X11_158 (c_isWithin _ _ _ _ _ _) rfl rfl rfl rfl ⟨Nat.le_refl _, Nat.le_refl _⟩ (D 3 rfl) ?_
  exact j_zret C P rfl (isB_b2 _) (D 4 rfl) ⟨Nat.le_refl _, Nat.le_refl _⟩ (pv_i rfl)
set_option maxRecDepth 20000 in
theorem c_rootOf (l : Launch) (G : GT) (w : Wd) (k : Nat) (hk : k < 16777216) : Mt l G mX10_rootOf (0) 0 0 [.int (nI k)] w (pV (.int (nI (isq k))) w) := by
  refine mt_of (own := RX10) (by decide) rfl rfl (fun Z C P B => ?_)
  have D := @dc_of _ _ dX10_rootOf
  have L : ∀ (j r : Nat) (x3 : Option Value), r * r ≤ k → k < (r + 2 ^ j) * (r + 2 ^ j) → r + 2 ^ j ≤ 4096 → J Z (0, 0) 6 [some (.int (nI k)), some (.int (nI r)), some (.int (nI (2 ^ j / 2))), x3] [] w := by
    intro j
    induction j with
    | zero =>
      intro r x3 h1 h2 h3
      refine j_iload_n C (D 4 rfl) rfl ?_
      refine j_if_le C  30 (D 5 rfl) (by decide) (fun h7 => ?_) (fun h7 => absurd h7 (fun z => z (by decide)))
      refine j_iload_n C (D 22 rfl) rfl ?_
      exact j_iret C P rfl (D 23 rfl) ⟨Nat.le_refl _, Nat.le_refl _⟩ (pv_i (congrArg nI (isq_uniq h1 (by rw [Nat.pow_zero] at h2; exact h2))))
    | succ j ih =>
      intro r x3 h1 h2 h3
      have hp : 2 ^ (j + 1) = 2 * 2 ^ j := by rw [Nat.pow_succ]; omega
      have hp2 : 2 ^ (j + 1) = 2 ^ j + 2 ^ j := by omega
      have hq : 0 < 2 ^ j := Nat.two_pow_pos j
      have hm : (r + 2 ^ j) * (r + 2 ^ j) ≤ 4096 * 4096 := Nat.mul_le_mul (by omega) (by omega)
      rw [show 2 ^ (j + 1) / 2 = 2 ^ j by omega]
      refine j_iload_n C (D 4 rfl) rfl ?_
      refine j_if_le C  30 (D 5 rfl) (by decide) (fun h7 => absurd h7 (fun z => absurd (i_le.mp z) (by rw [nI_int (by omega)]; show ¬ ((2 ^ j : Nat) : Int) ≤ 0; omega))) (fun h7 => ?_)
      refine j_iload_n C (D 6 rfl) rfl ?_
      refine j_iload_n C (D 7 rfl) rfl ?_
      refine j_iadd C (D 8 rfl) ?_
      rw [nI_add]
      refine j_istore_n C (D 9 rfl) rfl ?_
      refine j_iload_n C (D 10 rfl) rfl ?_
      refine j_iload_n C (D 11 rfl) rfl ?_
      refine j_imul C (D 12 rfl) ?_
      rw [pk_mul]
      refine j_iload_n C (D 13 rfl) rfl ?_
      refine j_icmp_gt C  23 (D 14 rfl) (by decide) (fun h18 => ?_) (fun h18 => ?_)
      · refine j_iload_n C (D 17 rfl) rfl ?_
        refine j_iconst C (v := nI 1) (D 18 rfl) rfl ?_
        refine j_ishr C (D 19 rfl) ?_
        rw [pk_shrN (by omega) _ 1 (by decide), Nat.pow_one]
        refine j_istore_n C (D 20 rfl) rfl ?_
        refine j_goto C 6 (D 21 rfl) (by decide) ?_
        exact ih r _ h1 (by rw [i_lt, nI_int (by omega), nI_int (by omega)] at h18; omega) (by omega)
      · refine j_iload_n C (D 15 rfl) rfl ?_
        refine j_istore_n C (D 16 rfl) rfl ?_
        refine j_iload_n C (D 17 rfl) rfl ?_
        refine j_iconst C (v := nI 1) (D 18 rfl) rfl ?_
        refine j_ishr C (D 19 rfl) ?_
        rw [pk_shrN (by omega) _ 1 (by decide), Nat.pow_one]
        refine j_istore_n C (D 20 rfl) rfl ?_
        refine j_goto C 6 (D 21 rfl) (by decide) ?_
        exact ih (r + 2 ^ j) _ (by rw [i_lt, nI_int (by omega), nI_int (by omega)] at h18; omega) (by rw [Nat.add_assoc]; rw [hp2] at h2; exact h2) (by omega)
  refine j_iconst C (v := nI 0) (D 0 rfl) rfl ?_
  refine j_istore_n C (D 1 rfl) rfl ?_
  refine j_sipush C (v := nI 2048) (D 2 rfl) rfl ?_
  refine j_istore_n C (D 3 rfl) rfl ?_
  exact L 12 0 _ (Nat.zero_le _) (by show k < (0 + 4096) * (0 + 4096); omega) (by decide)
set_option maxRecDepth 20000 in
theorem c_alongFormula (l : Launch) (G : GT) {t : Nat} (ht : isT t) {I : Nat → Nat → Int32} {L : Nat → Nat → Int64} {R : Nat → Nat → Option Nat} (hL : Lay R) {E : Nat → Int32} (hE : WE E) (hT : TR I t E) (hcur : E 2 = 0 ∨ E 2 = 1 ∨ E 2 = 2) (n : Nat) (hn : n ≤ 99999) : Mt l G mX10_alongFormula (1) 0 0 [.ref (ra G t), .int (nI n)] (wd I L R) (pV (.int (Int32.ofInt (curZ E n))) (wd I L R)) := by
  refine mt_of (own := RX10) (by decide) rfl rfl (fun Z C P B => ?_)
  have D := @dc_of _ _ dX10_alongFormula
  have hne : ¬ E 2 = 3 := by rcases hcur with q | q | q <;> rw [q] <;> decide
  have e2 : I t 2 = E 2 := hT.2.2.1
  obtain ⟨e3, e4⟩ := hT.2.2.2.2.2 hne
  have hnn : (n : Int) * n ≤ 99999 * 99999 := Int.mul_le_mul (by omega) (by omega) (by omega) (by omega)
  have hn0 : 0 ≤ (n : Int) * n := Int.mul_nonneg (by omega) (by omega)
  have w34 : (1 ≤ (E 3).toInt ∧ (E 3).toInt ≤ 9999) ∧ (1 ≤ (E 4).toInt ∧ (E 4).toInt ≤ 99999) := by
    rcases hE.2.2.2 with q | q
    · exact q.2
    · exact absurd q.1 hne
  have K : ∀ (q : Int64) (Q : Int), q.toInt = Q → 0 ≤ Q → Q ≤ 100000000000 → curZ E n = min 2000 ((E 3).toInt * Q / (E 4).toInt) → J Z (0, 0) 47 [some (.ref (ra G t)), some (.int (nI n)), some (.long q), none] [] (wd I L R) := by
    intro q Q hq h0 h1 hz
    refine j_aload_n C (D 30 rfl) rfl ?_
    refine j_geti C f_X10_42 (sT0 ht) rfl rfl (D 31 rfl) ?_
    rw [e3]
    refine j_i2l C (D 32 rfl) ?_
    refine j_lload_n C (D 33 rfl) rfl ?_
    refine j_lmul C (D 34 rfl) ?_
    refine j_aload_n C (D 35 rfl) rfl ?_
    refine j_geti C f_X10_36 (sT0 ht) rfl rfl (D 36 rfl) ?_
    rw [e4]
    refine j_i2l C (D 37 rfl) ?_
    refine j_ldiv C (D 38 rfl) (ne0L (by omega)) ?_
    refine j_ldc2_w C (v := 2000) (D 39 rfl) n_X10_45 ?_
    refine j_mminL C B k_X10_47 rfl rfl ⟨Nat.le_refl _, Nat.le_refl _⟩ (D 40 rfl) ?_
    refine j_l2i C (D 41 rfl) ?_
    exact j_iret C P rfl (D 42 rfl) ⟨Nat.le_refl _, Nat.le_refl _⟩ (pv_i (by rw [hz]; exact minL (qL hq h0 h1 (by omega) (by omega) (by omega)) (dvn (Int.mul_nonneg (by omega) h0) (by omega))))
  refine j_aload_n C (D 0 rfl) rfl ?_
  refine j_geti C f_X10_36 (sT0 ht) rfl rfl (D 1 rfl) ?_
  rw [e4]
  refine j_iconst C (v := nI 1) (D 2 rfl) rfl ?_
  refine j_icmp_ge C  10 (D 3 rfl) (by decide) (fun h5 => ?_) (fun h5 => absurd h5 (fun z => z (i_le.mpr (by rw [nI_int (by decide)]; omega))))
  refine j_iload_n C (D 6 rfl) rfl ?_
  refine j_i2l C (D 7 rfl) ?_
  refine j_lstore_n C (D 8 rfl) rfl ?_
  refine j_aload_n C (D 9 rfl) rfl ?_
  refine j_geti C f_X10_26 (sT0 ht) rfl rfl (D 10 rfl) ?_
  rw [e2]
  refine j_iconst C (v := nI 1) (D 11 rfl) rfl ?_
  refine j_icmp_ne C  30 (D 12 rfl) (by decide) (fun h18 => ?_) (fun h18 => ?_)
  · refine j_aload_n C (D 20 rfl) rfl ?_
    refine j_geti C f_X10_26 (sT0 ht) rfl rfl (D 21 rfl) ?_
    rw [e2]
    refine j_iconst C (v := nI 2) (D 22 rfl) rfl ?_
    refine j_icmp_ne C  47 (D 23 rfl) (by decide) (fun h35 => ?_) (fun h35 => ?_)
    · exact K _ (n : Int) (nI_i64 (by omega)) (by omega) (by omega) (by rw [curZ, if_pos (by rcases hcur with q | q | q; exact q; exact absurd q h18; exact absurd q h35)])
    · refine j_bipush C (v := nI 100) (D 24 rfl) rfl ?_
      refine j_iload_n C (D 25 rfl) rfl ?_
      refine j_imul C (D 26 rfl) ?_
      rw [pk_mul]
      refine j_cSp C B k_X10_39 (c_rootOf _ _ _ (100 * n) (by omega)) rfl rfl rfl rfl ⟨Nat.le_refl _, Nat.le_refl _⟩ (D 27 rfl) ?_
      refine j_i2l C (D 28 rfl) ?_
      refine j_lstore_n C (D 29 rfl) rfl ?_
      exact K _ (isq (100 * n) : Int) (nI_i64 (by have := isq_le (100 * n); have : isq (100 * n) < 4096 := sq_lt (by omega); omega)) (by omega) (by have := isq_le (100 * n); have : isq (100 * n) < 4096 := sq_lt (by omega); omega) (by rw [curZ, if_neg (by rw [h35]; decide), if_neg (by rw [h35]; decide), if_pos (show E 2 = 2 from h35)]; simp)
  · refine j_iload_n C (D 13 rfl) rfl ?_
    refine j_i2l C (D 14 rfl) ?_
    refine j_iload_n C (D 15 rfl) rfl ?_
    refine j_i2l C (D 16 rfl) ?_
    refine j_lmul C (D 17 rfl) ?_
    refine j_lstore_n C (D 18 rfl) rfl ?_
    refine j_goto C 47 (D 19 rfl) (by decide) ?_
    exact K _ ((n : Int) * n) (by rw [l_mul (by rw [nI_i64 (by omega)]; omega) (by rw [nI_i64 (by omega)]; omega), nI_i64 (by omega)]) (by omega) (by omega) (by rw [curZ, if_neg (by rw [h18]; decide), if_pos (show E 2 = 1 from h18)])
theorem tab_i {X0 X1 W0 W1 : Int32} {n : Nat} (hn : n ≤ 99999) (a0 : 0 ≤ X0.toInt) (a1 : X0.toInt ≤ X1.toInt) (a2 : X1.toInt ≤ 2000) (b0 : 0 ≤ W0.toInt) (b1 : W0.toInt ≤ n) (b2 : (n : Int) < W1.toInt) (b3 : W1.toInt ≤ 99999) : (X0 + (nI n - W0) * (X1 - X0) / (W1 - W0)).toInt = X0.toInt + ((n : Int) - W0.toInt) * (X1.toInt - X0.toInt) / (W1.toInt - W0.toInt) := by
  have e1 : (nI n - W0).toInt = (n : Int) - W0.toInt := by rw [i_sub (by rw [nI_int (by omega)]; omega) (by rw [nI_int (by omega)]; omega), nI_int (by omega)]
  have e2 : (X1 - X0).toInt = X1.toInt - X0.toInt := i_sub (by omega) (by omega)
  have e3 : (W1 - W0).toInt = W1.toInt - W0.toInt := i_sub (by omega) (by omega)
  have p0 : 0 ≤ ((n : Int) - W0.toInt) * (X1.toInt - X0.toInt) := Int.mul_nonneg (by omega) (by omega)
  have p1 : ((n : Int) - W0.toInt) * (X1.toInt - X0.toInt) ≤ 99999 * 2000 := Int.mul_le_mul (by omega) (by omega) (by omega) (by omega)
  have e4 : ((nI n - W0) * (X1 - X0)).toInt = ((n : Int) - W0.toInt) * (X1.toInt - X0.toInt) := by rw [i_mul (by rw [e1, e2]; omega) (by rw [e1, e2]; omega), e1, e2]
  have e5 : ((nI n - W0) * (X1 - X0) / (W1 - W0)).toInt = ((n : Int) - W0.toInt) * (X1.toInt - X0.toInt) / (W1.toInt - W0.toInt) := by rw [i_div (by rw [e4]; exact p0) (by rw [e3]; omega), e4, e3]
  have q0 : 0 ≤ ((n : Int) - W0.toInt) * (X1.toInt - X0.toInt) / (W1.toInt - W0.toInt) := dvn p0 (by omega)
  have q1 : ((n : Int) - W0.toInt) * (X1.toInt - X0.toInt) / (W1.toInt - W0.toInt) ≤ 2000 := by
    have : ((n : Int) - W0.toInt) * (X1.toInt - X0.toInt) / (W1.toInt - W0.toInt) ≤ X1.toInt - X0.toInt := by
      apply Int.ediv_le_of_le_mul (by omega)
      rw [Int.mul_comm]
      exact Int.mul_le_mul_of_nonneg_left (by omega) (by omega)
    omega
  rw [i_add (by rw [e5]; omega) (by rw [e5]; omega), e5]
set_option maxRecDepth 20000 in
theorem c_alongTable (l : Launch) (G : GT) {t : Nat} (ht : isT t) {I : Nat → Nat → Int32} {L : Nat → Nat → Int64} {R : Nat → Nat → Option Nat} (hL : Lay R) {E : Nat → Int32} (hE : WE E) (hT : TR I t E) (hcur : E 2 = 3) (n : Nat) (hn : n ≤ 99999) : Mt l G mX10_alongTable (0) 0 0 [.ref (ra G t), .int (nI n)] (wd I L R) (pV (.int (Int32.ofInt (tabZ E (E 3).toInt.toNat n))) (wd I L R)) := by
  refine mt_of (own := RX10) (by decide) rfl rfl (fun Z C P B => ?_)
  have D := @dc_of _ _ dX10_alongTable
  obtain ⟨e6, hWX⟩ := hT.2.2.2.2.1 hcur
  obtain ⟨N, hN1, hN8, hN, hTb, hTs⟩ : ∃ N : Nat, 1 ≤ N ∧ N ≤ 8 ∧ E 3 = nI N ∧ (∀ k, k < N → 0 ≤ tabW E k ∧ tabW E k ≤ 99999 ∧ 0 ≤ tabX E k ∧ tabX E k ≤ 2000) ∧ ∀ k, k + 1 < N → tabW E k < tabW E (k + 1) ∧ tabX E k ≤ tabX E (k + 1) := by
    rcases hE.2.2.2 with q | q
    · rcases q.1 with z | z | z <;> rw [z] at hcur <;> exact absurd hcur (by decide)
    · exact q.2.2
  have hNt : (E 3).toInt = N := by rw [hN, nI_int (by omega)]
  have hW : ∀ k : Nat, k < N → I (t + 1) k = E (6 + 2 * k) := fun k hk => (hWX k (by omega)).1
  have hX : ∀ k : Nat, k < N → I (t + 2) k = E (6 + 2 * k + 1) := fun k hk => (hWX k (by omega)).2
  rw [hNt, show (N : Int).toNat = N from rfl] at P
  have K : ∀ b : Nat, beh (tabW E) n N 0 = b → J Z (0, 0) 26 [some (.ref (ra G t)), some (.int (nI n)), some (.int (nI b)), none, none] [] (wd I L R) := by
    intro b hb
    have hble : b ≤ N := by have := beh_le (tabW E) n N 0; omega
    have hb0 : nI b = 0 → b = 0 := fun z => by have := i_eq.mp z; rw [nI_int (by omega)] at this; have e0 : (0 : Int32).toInt = 0 := by decide
                                               omega
    have hbN : ¬ nI b < E 3 → b = N := fun z => by rw [i_lt, hN, nI_int (by omega), nI_int (by omega)] at z; omega
    refine j_iload_n C (D 14 rfl) rfl ?_
    refine j_if_ne C  32 (D 15 rfl) (by decide) (fun h27 => ?_) (fun h27 => ?_)
    · have hbp : 0 < b := Nat.pos_of_ne_zero (fun z => h27 (by rw [z]; decide))
      refine j_aload_n C (D 18 rfl) rfl ?_
      refine j_getr C f_X10_15 (sT0 ht) rfl rfl (hL _ _ _ (rT8 ht)) (D 19 rfl) ?_
      refine j_iload_n C (D 20 rfl) rfl ?_
      refine j_iconst C (v := nI 1) (D 21 rfl) rfl ?_
      refine j_isub C (D 22 rfl) ?_
      rw [pk_sub (by omega)]
      refine j_iald C (sT2 ht) (ix_n (by omega) (by decide)) (D 23 rfl) ?_
      rw [hX _ (by omega)]
      refine j_istore_n C (D 24 rfl) rfl ?_
      refine j_iload_n C (D 25 rfl) rfl ?_
      refine j_aload_n C (D 26 rfl) rfl ?_
      refine j_geti C f_X10_53 (sT0 ht) rfl rfl (D 27 rfl) ?_
      rw [e6]
      refine j_icmp_lt C  51 (D 28 rfl) (by decide) (fun h46 => ?_) (fun h46 => ?_)
      · have hbn : b < N := by rw [i_lt, hN, nI_int (by omega), nI_int (by omega)] at h46; omega
        have hx0 := (hTb (b - 1) (by omega)).2.2.1
        have hx1 := (hTb b (by omega)).2.2.2
        have hw0 := (hTb (b - 1) (by omega)).1
        have hw1 := (hTb b (by omega)).2.1
        have hst := hTs (b - 1) (by omega)
        rw [show b - 1 + 1 = b by omega] at hst
        have hxm := hst.2
        have hq0 : tabW E (b - 1) ≤ n := beh_in (tabW E) n N 0 (b - 1) (by omega) (by rw [hb]; omega)
        have hq1 : (n : Int) < tabW E b := by have := beh_out (tabW E) n N 0 (by rw [hb]; omega); rw [hb] at this; exact this
        have eD : (E (6 + 2 * b) - E (6 + 2 * (b - 1))).toInt = tabW E b - tabW E (b - 1) := i_sub (by unfold tabW at *; omega) (by unfold tabW at *; omega)
        refine j_aload_n C (D 31 rfl) rfl ?_
        refine j_getr C f_X10_9 (sT0 ht) rfl rfl (hL _ _ _ (rT7 ht)) (D 32 rfl) ?_
        refine j_iload_n C (D 33 rfl) rfl ?_
        refine j_iald C (sT1 ht) (ix_n (by omega) (by decide)) (D 34 rfl) ?_
        rw [hW _ (by omega)]
        refine j_aload_n C (D 35 rfl) rfl ?_
        refine j_getr C f_X10_9 (sT0 ht) rfl rfl (hL _ _ _ (rT7 ht)) (D 36 rfl) ?_
        refine j_iload_n C (D 37 rfl) rfl ?_
        refine j_iconst C (v := nI 1) (D 38 rfl) rfl ?_
        refine j_isub C (D 39 rfl) ?_
        rw [pk_sub (by omega)]
        refine j_iald C (sT1 ht) (ix_n (by omega) (by decide)) (D 40 rfl) ?_
        rw [hW _ (by omega)]
        refine j_isub C (D 41 rfl) ?_
        refine j_istore C (D 42 rfl) rfl ?_
        refine j_iload C (D 43 rfl) rfl ?_
        refine j_iconst C (v := nI 1) (D 44 rfl) rfl ?_
        refine j_icmp_ge C  76 (D 45 rfl) (by decide) (fun h71 => ?_) (fun h71 => absurd h71 (fun z => z (i_le.mpr (by rw [nI_int (by decide), eD]; omega))))
        refine j_iload_n C (D 48 rfl) rfl ?_
        refine j_iload_n C (D 49 rfl) rfl ?_
        refine j_aload_n C (D 50 rfl) rfl ?_
        refine j_getr C f_X10_9 (sT0 ht) rfl rfl (hL _ _ _ (rT7 ht)) (D 51 rfl) ?_
        refine j_iload_n C (D 52 rfl) rfl ?_
        refine j_iconst C (v := nI 1) (D 53 rfl) rfl ?_
        refine j_isub C (D 54 rfl) ?_
        rw [pk_sub (by omega)]
        refine j_iald C (sT1 ht) (ix_n (by omega) (by decide)) (D 55 rfl) ?_
        rw [hW _ (by omega)]
        refine j_isub C (D 56 rfl) ?_
        refine j_aload_n C (D 57 rfl) rfl ?_
        refine j_getr C f_X10_15 (sT0 ht) rfl rfl (hL _ _ _ (rT8 ht)) (D 58 rfl) ?_
        refine j_iload_n C (D 59 rfl) rfl ?_
        refine j_iald C (sT2 ht) (ix_n (by omega) (by decide)) (D 60 rfl) ?_
        rw [hX _ (by omega)]
        refine j_iload_n C (D 61 rfl) rfl ?_
        refine j_isub C (D 62 rfl) ?_
        refine j_imul C (D 63 rfl) ?_
        refine j_iload C (D 64 rfl) rfl ?_
        refine j_idiv C (D 65 rfl) (ne0I (by rw [eD]; omega)) ?_
        refine j_iadd C (D 66 rfl) ?_
        exact j_iret C P rfl (D 67 rfl) ⟨Nat.le_refl _, Nat.le_refl _⟩ (pv_i (eq_ofI (by rw [tabZ, if_neg (by rw [hb]; omega), if_neg (by rw [hb]; omega), hb]; exact tab_i hn hx0 hxm hx1 hw0 hq0 hq1 hw1)))
      · refine j_iload_n C (D 29 rfl) rfl ?_
        exact j_iret C P rfl (D 30 rfl) ⟨Nat.le_refl _, Nat.le_refl _⟩ (pv_i (eq_ofI (by rw [tabZ, if_neg (by rw [hb]; omega), if_pos (by rw [hb]; exact hbN h46), hbN h46]; rfl)))
    · refine j_iconst C (v := nI 0) (D 16 rfl) rfl ?_
      exact j_iret C P rfl (D 17 rfl) ⟨Nat.le_refl _, Nat.le_refl _⟩ (pv_i (by rw [tabZ, if_pos (by rw [hb]; exact hb0 h27)]; decide))
  have Lp : ∀ (m i : Nat), i + m = N → beh (tabW E) n N 0 = beh (tabW E) n m i → J Z (0, 0) 2 [some (.ref (ra G t)), some (.int (nI n)), some (.int (nI i)), none, none] [] (wd I L R) := by
    intro m
    induction m with
    | zero =>
      intro i hi hbi
      refine j_iload_n C (D 2 rfl) rfl ?_
      refine j_aload_n C (D 3 rfl) rfl ?_
      refine j_geti C f_X10_53 (sT0 ht) rfl rfl (D 4 rfl) ?_
      rw [e6, hN]
      refine j_icmp_ge C  26 (D 5 rfl) (by decide) (fun h7 => ?_) (fun h7 => absurd h7 (fun z => z (nI_le (by omega) (by omega))))
      exact K i (by rw [hbi]; rfl)
    | succ m ih =>
      intro i hi hbi
      refine j_iload_n C (D 2 rfl) rfl ?_
      refine j_aload_n C (D 3 rfl) rfl ?_
      refine j_geti C f_X10_53 (sT0 ht) rfl rfl (D 4 rfl) ?_
      rw [e6, hN]
      refine j_icmp_ge C  26 (D 5 rfl) (by decide) (fun h7 => absurd h7 (fun z => nI_ge (by omega) (by omega) z)) (fun h7 => ?_)
      refine j_aload_n C (D 6 rfl) rfl ?_
      refine j_getr C f_X10_9 (sT0 ht) rfl rfl (hL _ _ _ (rT7 ht)) (D 7 rfl) ?_
      refine j_iload_n C (D 8 rfl) rfl ?_
      refine j_iald C (sT1 ht) (ix_n (by omega) (by decide)) (D 9 rfl) ?_
      rw [hW _ (by omega)]
      refine j_iload_n C (D 10 rfl) rfl ?_
      refine j_icmp_gt C  26 (D 11 rfl) (by decide) (fun h17 => ?_) (fun h17 => ?_)
      · exact K i (by rw [hbi, beh, if_neg (by rw [i_lt, nI_int (by omega)] at h17; unfold tabW; omega)])
      · first | refine j_iinc1 C (D 12 rfl) rfl rfl ?_ | refine j_iinc C (D 12 rfl) rfl rfl rfl ?_
        refine j_goto C 2 (D 13 rfl) (by decide) ?_
        exact ih (i + 1) (by omega) (by rw [hbi, beh, if_pos (by rw [i_lt, nI_int (by omega)] at h17; unfold tabW; omega)])
  refine j_iconst C (v := nI 0) (D 0 rfl) rfl ?_
  refine j_istore_n C (D 1 rfl) rfl ?_
  exact Lp N 0 (by omega) rfl
def betB (E : Nat → Int32) (m o : Int32) : Bool := if E 0 = 1 then decide (o < m) else decide (m < o)
def bbS (E : Nat → Int32) (m b : Int32) : Int32 := if E 0 = 1 then (if m + b < 99999 then m + b else 99999) else (if 0 < m - b then m - b else 0)
theorem i99 : (99999 : Int32).toInt = 99999 := by decide
theorem i0 : (0 : Int32).toInt = 0 := by decide
theorem we0 {E : Nat → Int32} (h : WE E) (h1 : ¬ E 0 = 0) : E 0 = 1 := h.1.elim (fun q => absurd q h1) id
theorem we0' {E : Nat → Int32} (h1 : E 0 = 0) : ¬ E 0 = 1 := by rw [h1]; decide
theorem cur012 {E : Nat → Int32} (h : WE E) (h1 : ¬ E 2 = 3) : E 2 = 0 ∨ E 2 = 1 ∨ E 2 = 2 := h.2.2.2.elim (fun q => q.1) (fun q => absurd q.1 h1)
set_option maxRecDepth 20000 in
theorem c_valueOf (l : Launch) (G : GT) {t : Nat} (ht : isT t) {I : Nat → Nat → Int32} {L : Nat → Nat → Int64} {R : Nat → Nat → Option Nat} (hL : Lay R) {E : Nat → Int32} (hE : WE E) (hT : TR I t E) (m : Int32) (hm : okM m) : Mt l G mX10_valueOf (2) 0 0 [.ref (ra G t), .int m] (wd I L R) (pV (.int (pts E m)) (wd I L R)) := by
  refine mt_of (own := RX10) (by decide) rfl rfl (fun Z C P B => ?_)
  have D := @dc_of _ _ dX10_valueOf
  have e0 : I t 0 = E 0 := hT.1
  have e1 : I t 1 = E 1 := hT.2.1
  have e2 : I t 2 = E 2 := hT.2.2.1
  have hb := hE.2.1
  have K : ¬ m = -1 → ∀ d : Int32, d.toInt = wayZ E m → J Z (0, 0) 30 [some (.ref (ra G t)), some (.int m), some (.int d)] [] (wd I L R) := by
    intro hm1 d hd
    have hmr : 0 ≤ m.toInt ∧ m.toInt ≤ 99999 := hm.resolve_left hm1
    have hwl : wayZ E m ≤ 99999 := by unfold wayZ; by_cases q : E 0 = 1 <;> simp only [q, if_true, if_false] <;> omega
    refine j_iload_n C (D 18 rfl) rfl ?_
    refine j_if_ge C  36 (D 19 rfl) (by decide) (fun h31 => ?_) (fun h31 => ?_)
    · obtain ⟨n, hn1, hn2, hn3⟩ := i_nat (a := d) (by rw [i_le, i0] at h31; omega)
      subst hn2
      have hw : wayZ E m = n := by rw [← hd]; exact hn3
      have hn4 : n ≤ 99999 := by omega
      have hpt : pts E m = Int32.ofInt (curZ E n) := by rw [pts, ptsZ, if_neg hm1, if_neg (by omega), hw]
      refine j_aload_n C (D 22 rfl) rfl ?_
      refine j_geti C f_X10_26 (sT0 ht) rfl rfl (D 23 rfl) ?_
      rw [e2]
      refine j_iconst C (v := nI 3) (D 24 rfl) rfl ?_
      refine j_icmp_ne C  52 (D 25 rfl) (by decide) (fun h41 => ?_) (fun h41 => ?_)
      · refine j_aload_n C (D 30 rfl) rfl ?_
        refine j_iload_n C (D 31 rfl) rfl ?_
        refine j_cVp C B k_X10_33 (rc_obj C (sT0 ht) rfl rfl) (c_alongFormula _ _ ht hL hE hT (cur012 hE h41) n hn4) rfl rfl rfl rfl ⟨Nat.le_refl _, Nat.le_refl _⟩ (D 32 rfl) ?_
        exact j_iret C P rfl (D 33 rfl) ⟨Nat.le_refl _, Nat.le_refl _⟩ (pv_i (by rw [hpt]))
      · refine j_aload_n C (D 26 rfl) rfl ?_
        refine j_iload_n C (D 27 rfl) rfl ?_
        refine j_cVp C B k_X10_29 (rc_obj C (sT0 ht) rfl rfl) (c_alongTable _ _ ht hL hE hT h41 n hn4) rfl rfl rfl rfl ⟨Nat.le_refl _, Nat.le_refl _⟩ (D 28 rfl) ?_
        refine j_goto C 57 (D 29 rfl) (by decide) ?_
        exact j_iret C P rfl (D 33 rfl) ⟨Nat.le_refl _, Nat.le_refl _⟩ (pv_i (by rw [hpt, curZ, if_neg (by rw [h41]; decide), if_neg (by rw [h41]; decide), if_neg (by rw [h41]; decide)]))
    · refine j_iconst C (v := nI 0) (D 20 rfl) rfl ?_
      exact j_iret C P rfl (D 21 rfl) ⟨Nat.le_refl _, Nat.le_refl _⟩ (pv_i (by rw [pts, ptsZ, if_neg hm1, if_pos (by rw [i_le, i0] at h31; omega)]; decide))
  refine j_iload_n C (D 0 rfl) rfl ?_
  refine j_iconst C (v := (-1)) (D 1 rfl) rfl ?_
  refine j_icmp_ne C  7 (D 2 rfl) (by decide) (fun h2 => ?_) (fun h2 => ?_)
  · have hmr : 0 ≤ m.toInt ∧ m.toInt ≤ 99999 := hm.resolve_left h2
    refine j_aload_n C (D 5 rfl) rfl ?_
    refine j_geti C f_X10_18 (sT0 ht) rfl rfl (D 6 rfl) ?_
    rw [e0]
    refine j_if_eq C  23 (D 7 rfl) (by decide) (fun h11 => ?_) (fun h11 => ?_)
    · refine j_aload_n C (D 13 rfl) rfl ?_
      refine j_geti C f_X10_22 (sT0 ht) rfl rfl (D 14 rfl) ?_
      rw [e1]
      refine j_iload_n C (D 15 rfl) rfl ?_
      refine j_isub C (D 16 rfl) ?_
      refine j_istore_n C (D 17 rfl) rfl ?_
      exact K h2 _ (by rw [wayZ, if_neg (we0' h11), i_sub (by omega) (by omega)])
    · refine j_iload_n C (D 8 rfl) rfl ?_
      refine j_aload_n C (D 9 rfl) rfl ?_
      refine j_geti C f_X10_22 (sT0 ht) rfl rfl (D 10 rfl) ?_
      rw [e1]
      refine j_isub C (D 11 rfl) ?_
      refine j_goto C 29 (D 12 rfl) (by decide) ?_
      refine j_istore_n C (D 17 rfl) rfl ?_
      exact K h2 _ (by rw [wayZ, if_pos (we0 hE h11), i_sub (by omega) (by omega)])
  · refine j_iconst C (v := nI 0) (D 3 rfl) rfl ?_
    exact j_iret C P rfl (D 4 rfl) ⟨Nat.le_refl _, Nat.le_refl _⟩ (pv_i (by rw [pts, ptsZ, if_pos h2]; decide))
set_option maxRecDepth 20000 in
theorem c_mostValue (l : Launch) (G : GT) {t : Nat} (ht : isT t) {I : Nat → Nat → Int32} {L : Nat → Nat → Int64} {R : Nat → Nat → Option Nat} (hL : Lay R) {E : Nat → Int32} (hE : WE E) (hT : TR I t E) : Mt l G mX10_mostValue (3) 0 0 [.ref (ra G t)] (wd I L R) (pV (.int (topS E)) (wd I L R)) := by
  refine mt_of (own := RX10) (by decide) rfl rfl (fun Z C P B => ?_)
  have D := @dc_of _ _ dX10_mostValue
  have e0 : I t 0 = E 0 := hT.1
  refine j_aload_n C (D 0 rfl) rfl ?_
  refine j_aload_n C (D 1 rfl) rfl ?_
  refine j_geti C f_X10_18 (sT0 ht) rfl rfl (D 2 rfl) ?_
  rw [e0]
  refine j_if_eq C  13 (D 3 rfl) (by decide) (fun h5 => ?_) (fun h5 => ?_)
  · refine j_iconst C (v := nI 0) (D 6 rfl) rfl ?_
    refine j_cVp C B k_X10_57 (rc_obj C (sT0 ht) rfl rfl) (c_valueOf _ _ ht hL hE hT _ (Or.inr (by decide))) rfl rfl rfl rfl ⟨Nat.le_refl _, Nat.le_refl _⟩ (D 7 rfl) ?_
    exact j_iret C P rfl (D 8 rfl) ⟨Nat.le_refl _, Nat.le_refl _⟩ (pv_i (by rw [topS, mkBy, if_neg (we0' h5)]; rfl))
  · refine j_ldc C (v := 99999) (D 4 rfl) n_X10_56 ?_
    refine j_goto C 14 (D 5 rfl) (by decide) ?_
    refine j_cVp C B k_X10_57 (rc_obj C (sT0 ht) rfl rfl) (c_valueOf _ _ ht hL hE hT _ (Or.inr (by decide))) rfl rfl rfl rfl ⟨Nat.le_refl _, Nat.le_refl _⟩ (D 7 rfl) ?_
    exact j_iret C P rfl (D 8 rfl) ⟨Nat.le_refl _, Nat.le_refl _⟩ (pv_i (by rw [topS, mkBy, if_pos (we0 hE h5)]; rfl))
set_option maxRecDepth 20000 in
theorem c_markAt (l : Launch) (G : GT) {t : Nat} (ht : isT t) {I : Nat → Nat → Int32} {L : Nat → Nat → Int64} {R : Nat → Nat → Option Nat} (hL : Lay R) {E : Nat → Int32} (hE : WE E) (hT : TR I t E) (m : Nat) : Mt l G mX10_markAt (0) 0 0 [.ref (ra G t), .int (nI m)] (wd I L R) (pV (.int (mkBy E m)) (wd I L R)) := by
  refine mt_of (own := RX10) (by decide) rfl rfl (fun Z C P B => ?_)
  have D := @dc_of _ _ dX10_markAt
  have e0 : I t 0 = E 0 := hT.1
  refine j_aload_n C (D 0 rfl) rfl ?_
  refine j_geti C f_X10_18 (sT0 ht) rfl rfl (D 1 rfl) ?_
  rw [e0]
  refine j_if_eq C  11 (D 2 rfl) (by decide) (fun h4 => ?_) (fun h4 => ?_)
  · refine j_ldc C (v := 99999) (D 5 rfl) n_X10_56 ?_
    refine j_iload_n C (D 6 rfl) rfl ?_
    refine j_isub C (D 7 rfl) ?_
    exact j_iret C P rfl (D 8 rfl) ⟨Nat.le_refl _, Nat.le_refl _⟩ (pv_i (by rw [mkBy, if_neg (we0' h4)]))
  · refine j_iload_n C (D 3 rfl) rfl ?_
    refine j_goto C 15 (D 4 rfl) (by decide) ?_
    exact j_iret C P rfl (D 8 rfl) ⟨Nat.le_refl _, Nat.le_refl _⟩ (pv_i (by rw [mkBy, if_pos (we0 hE h4)]))
set_option maxRecDepth 20000 in
theorem c_isBetter (l : Launch) (G : GT) {t : Nat} (ht : isT t) {I : Nat → Nat → Int32} {L : Nat → Nat → Int64} {R : Nat → Nat → Option Nat} (hL : Lay R) {E : Nat → Int32} (hE : WE E) (hT : TR I t E) (m q : Int32) : Mt l G mX10_isBetter (0) 0 0 [.ref (ra G t), .int m, .int q] (wd I L R) (pV (.int (b2 (betB E m q = true))) (wd I L R)) := by
  refine mt_of (own := RX10) (by decide) rfl rfl (fun Z C P B => ?_)
  have D := @dc_of _ _ dX10_isBetter
  have e0 : I t 0 = E 0 := hT.1
  refine j_aload_n C (D 0 rfl) rfl ?_
  refine j_geti C f_X10_18 (sT0 ht) rfl rfl (D 1 rfl) ?_
  rw [e0]
  refine j_if_eq C  20 (D 2 rfl) (by decide) (fun h4 => ?_) (fun h4 => ?_)
  · refine j_iload_n C (D 10 rfl) rfl ?_
    refine j_iload_n C (D 11 rfl) rfl ?_
    refine j_icmp_ge C  29 (D 12 rfl) (by decide) (fun h22 => ?_) (fun h22 => ?_)
    · refine j_iconst C (v := nI 0) (D 15 rfl) rfl ?_
      exact j_zret C P rfl (by first | exact isB_1 | exact isB_0) (D 16 rfl) ⟨Nat.le_refl _, Nat.le_refl _⟩ (pv_i (b2_f (by rw [betB, if_neg (we0' h4)]; simp only [decide_eq_true_eq]; rw [i_le] at h22; rw [i_lt]; omega)))
    · refine j_iconst C (v := nI 1) (D 13 rfl) rfl ?_
      refine j_goto C 30 (D 14 rfl) (by decide) ?_
      exact j_zret C P rfl (by first | exact isB_1 | exact isB_0) (D 16 rfl) ⟨Nat.le_refl _, Nat.le_refl _⟩ (pv_i (b2_t (by rw [betB, if_neg (we0' h4)]; simp only [decide_eq_true_eq]; rw [i_le] at h22; rw [i_lt]; omega)))
  · refine j_iload_n C (D 3 rfl) rfl ?_
    refine j_iload_n C (D 4 rfl) rfl ?_
    refine j_icmp_le C  16 (D 5 rfl) (by decide) (fun h9 => ?_) (fun h9 => ?_)
    · refine j_iconst C (v := nI 0) (D 8 rfl) rfl ?_
      refine j_goto C 30 (D 9 rfl) (by decide) ?_
      exact j_zret C P rfl (by first | exact isB_1 | exact isB_0) (D 16 rfl) ⟨Nat.le_refl _, Nat.le_refl _⟩ (pv_i (b2_f (by rw [betB, if_pos (we0 hE h4)]; simp only [decide_eq_true_eq]; rw [i_le] at h9; rw [i_lt]; omega)))
    · refine j_iconst C (v := nI 1) (D 6 rfl) rfl ?_
      refine j_goto C 30 (D 7 rfl) (by decide) ?_
      exact j_zret C P rfl (by first | exact isB_1 | exact isB_0) (D 16 rfl) ⟨Nat.le_refl _, Nat.le_refl _⟩ (pv_i (b2_t (by rw [betB, if_pos (we0 hE h4)]; simp only [decide_eq_true_eq]; rw [i_le] at h9; rw [i_lt]; omega)))
set_option maxRecDepth 20000 in
theorem c_betterBy (l : Launch) (G : GT) {t : Nat} (ht : isT t) {I : Nat → Nat → Int32} {L : Nat → Nat → Int64} {R : Nat → Nat → Option Nat} (hL : Lay R) {E : Nat → Int32} (hE : WE E) (hT : TR I t E) (m q : Int32) : Mt l G mX10_betterBy (1) 0 0 [.ref (ra G t), .int m, .int q] (wd I L R) (pV (.int (bbS E m q)) (wd I L R)) := by
  refine mt_of (own := RX10) (by decide) rfl rfl (fun Z C P B => ?_)
  have D := @dc_of _ _ dX10_betterBy
  have e0 : I t 0 = E 0 := hT.1
  refine j_aload_n C (D 0 rfl) rfl ?_
  refine j_geti C f_X10_18 (sT0 ht) rfl rfl (D 1 rfl) ?_
  rw [e0]
  refine j_if_eq C  18 (D 2 rfl) (by decide) (fun h4 => ?_) (fun h4 => ?_)
  · refine j_iconst C (v := nI 0) (D 9 rfl) rfl ?_
    refine j_iload_n C (D 10 rfl) rfl ?_
    refine j_iload_n C (D 11 rfl) rfl ?_
    refine j_isub C (D 12 rfl) ?_
    refine j_mmax C B k_X10_70 rfl rfl ⟨Nat.le_refl _, Nat.le_refl _⟩ (D 13 rfl) ?_
    exact j_iret C P rfl (D 14 rfl) ⟨Nat.le_refl _, Nat.le_refl _⟩ (pv_i (by rw [bbS, if_neg (we0' h4)]; rfl))
  · refine j_ldc C (v := 99999) (D 3 rfl) n_X10_56 ?_
    refine j_iload_n C (D 4 rfl) rfl ?_
    refine j_iload_n C (D 5 rfl) rfl ?_
    refine j_iadd C (D 6 rfl) ?_
    refine j_mmin C B k_X10_67 rfl rfl ⟨Nat.le_refl _, Nat.le_refl _⟩ (D 7 rfl) ?_
    refine j_goto C 25 (D 8 rfl) (by decide) ?_
    exact j_iret C P rfl (D 14 rfl) ⟨Nat.le_refl _, Nat.le_refl _⟩ (pv_i (by rw [bbS, if_pos (we0 hE h4)]))
set_option maxRecDepth 20000 in
theorem c_worstFor (l : Launch) (G : GT) {t : Nat} (ht : isT t) {I : Nat → Nat → Int32} {L : Nat → Nat → Int64} {R : Nat → Nat → Option Nat} (hL : Lay R) {E : Nat → Int32} (hE : WE E) (hT : TR I t E) (q : Int32) : Mt l G mX10_worstFor (4) 0 0 [.ref (ra G t), .int q] (wd I L R) (pV (.int (wstS E q)) (wd I L R)) := by
  refine mt_of (own := RX10) (by decide) rfl rfl (fun Z C P B => ?_)
  have D := @dc_of _ _ dX10_worstFor
  have K : ¬ topS E < q → ∀ (lo hi r : Nat) (x5 : Option Value), bs (fun m => decide (q ≤ pts E (mkBy E m))) 17 0 99999 = lo → J Z (0, 0) 68 [some (.ref (ra G t)), some (.int q), some (.int (nI lo)), some (.int (nI hi)), some (.int (nI r)), x5] [] (wd I L R) := by
    intro hge lo hi r x5 hlo
    refine j_aload_n C (D 40 rfl) rfl ?_
    refine j_iload_n C (D 41 rfl) rfl ?_
    refine j_cVp C B k_X10_64 (rc_obj C (sT0 ht) rfl rfl) (c_markAt _ _ ht hL hE hT lo) rfl rfl rfl rfl ⟨Nat.le_refl _, Nat.le_refl _⟩ (D 42 rfl) ?_
    exact j_iret C P rfl (D 43 rfl) ⟨Nat.le_refl _, Nat.le_refl _⟩ (pv_i (by rw [wstS, if_neg hge, hlo]))
  have Lp : ¬ topS E < q → ∀ (m r lo hi : Nat) (x5 : Option Value), r + m = 17 → lo ≤ hi → hi ≤ 99999 → bs (fun m => decide (q ≤ pts E (mkBy E m))) 17 0 99999 = bs (fun m => decide (q ≤ pts E (mkBy E m))) m lo hi → J Z (0, 0) 18 [some (.ref (ra G t)), some (.int q), some (.int (nI lo)), some (.int (nI hi)), some (.int (nI r)), x5] [] (wd I L R) := by
    intro hge
    have K := K hge
    intro m
    induction m with
    | zero =>
      intro r lo hi x5 hr hlh h9 hbs
      refine j_iload C (D 12 rfl) rfl ?_
      refine j_bipush C (v := nI 17) (D 13 rfl) rfl ?_
      refine j_icmp_ge C  68 (D 14 rfl) (by decide) (fun h22 => ?_) (fun h22 => absurd h22 (fun z => z (nI_le (by omega) (by omega))))
      exact K lo hi r x5 (by rw [hbs]; rfl)
    | succ m ih =>
      intro r lo hi x5 hr hlh h9 hbs
      refine j_iload C (D 12 rfl) rfl ?_
      refine j_bipush C (v := nI 17) (D 13 rfl) rfl ?_
      refine j_icmp_ge C  68 (D 14 rfl) (by decide) (fun h22 => absurd h22 (fun z => nI_ge (by omega) (by omega) z)) (fun h22 => ?_)
      refine j_iload_n C (D 15 rfl) rfl ?_
      refine j_iload_n C (D 16 rfl) rfl ?_
      refine j_icmp_ge C  68 (D 17 rfl) (by decide) (fun h27 => ?_) (fun h27 => ?_)
      · exact K lo hi r x5 (by rw [hbs, bs, if_neg (by rw [i_le, nI_int (by omega), nI_int (by omega)] at h27; omega)])
      · have hlt : lo < hi := by rw [i_le, nI_int (by omega), nI_int (by omega)] at h27; omega
        refine j_iload_n C (D 18 rfl) rfl ?_
        refine j_iload_n C (D 19 rfl) rfl ?_
        refine j_iadd C (D 20 rfl) ?_
        rw [nI_add]
        refine j_iconst C (v := nI 2) (D 21 rfl) rfl ?_
        refine j_idiv C (D 22 rfl) (by decide) ?_
        rw [pk_div (by omega) (by decide) (by decide)]
        refine j_istore C (D 23 rfl) rfl ?_
        refine j_aload_n C (D 24 rfl) rfl ?_
        refine j_aload_n C (D 25 rfl) rfl ?_
        refine j_iload C (D 26 rfl) rfl ?_
        refine j_cVp C B k_X10_64 (rc_obj C (sT0 ht) rfl rfl) (c_markAt _ _ ht hL hE hT ((lo + hi) / 2)) rfl rfl rfl rfl ⟨Nat.le_refl _, Nat.le_refl _⟩ (D 27 rfl) ?_
        refine j_cVp C B k_X10_57 (rc_obj C (sT0 ht) rfl rfl) (c_valueOf _ _ ht hL hE hT _ (Or.inr (mkBy_rng E (by omega)))) rfl rfl rfl rfl ⟨Nat.le_refl _, Nat.le_refl _⟩ (D 28 rfl) ?_
        refine j_iload_n C (D 29 rfl) rfl ?_
        refine j_icmp_lt C  57 (D 30 rfl) (by decide) (fun h48 => ?_) (fun h48 => ?_)
        · refine j_iload C (D 34 rfl) rfl ?_
          refine j_iconst C (v := nI 1) (D 35 rfl) rfl ?_
          refine j_iadd C (D 36 rfl) ?_
          rw [nI_add]
          refine j_istore_n C (D 37 rfl) rfl ?_
          first | refine j_iinc1 C (D 38 rfl) rfl rfl ?_ | refine j_iinc C (D 38 rfl) rfl rfl rfl ?_
          refine j_goto C 18 (D 39 rfl) (by decide) ?_
          exact ih (r + 1) ((lo + hi) / 2 + 1) hi _ (by omega) (by omega) h9 (by rw [hbs, bs, if_pos hlt, if_neg (by simp only [decide_eq_true_eq]; rw [i_lt] at h48; rw [i_le]; omega)])
        · refine j_iload C (D 31 rfl) rfl ?_
          refine j_istore_n C (D 32 rfl) rfl ?_
          refine j_goto C 62 (D 33 rfl) (by decide) ?_
          first | refine j_iinc1 C (D 38 rfl) rfl rfl ?_ | refine j_iinc C (D 38 rfl) rfl rfl rfl ?_
          refine j_goto C 18 (D 39 rfl) (by decide) ?_
          exact ih (r + 1) lo ((lo + hi) / 2) _ (by omega) (by omega) (by omega) (by rw [hbs, bs, if_pos hlt, if_pos (by simp only [decide_eq_true_eq]; rw [i_lt] at h48; rw [i_le]; omega)])
  refine j_aload_n C (D 0 rfl) rfl ?_
  refine j_cVp C B k_X10_60 (rc_obj C (sT0 ht) rfl rfl) (c_mostValue _ _ ht hL hE hT) rfl rfl rfl rfl ⟨Nat.le_refl _, Nat.le_refl _⟩ (D 1 rfl) ?_
  refine j_iload_n C (D 2 rfl) rfl ?_
  refine j_icmp_ge C  10 (D 3 rfl) (by decide) (fun h5 => ?_) (fun h5 => ?_)
  · refine j_iconst C (v := nI 0) (D 6 rfl) rfl ?_
    refine j_istore_n C (D 7 rfl) rfl ?_
    refine j_ldc C (v := 99999) (D 8 rfl) n_X10_56 ?_
    refine j_istore_n C (D 9 rfl) rfl ?_
    refine j_iconst C (v := nI 0) (D 10 rfl) rfl ?_
    refine j_istore C (D 11 rfl) rfl ?_
    exact Lp (by rw [i_le] at h5; rw [i_lt]; omega) 17 0 0 99999 _ rfl (by decide) (by decide) rfl
  · refine j_iconst C (v := (-1)) (D 4 rfl) rfl ?_
    exact j_iret C P rfl (D 5 rfl) ⟨Nat.le_refl _, Nat.le_refl _⟩ (pv_i (by rw [wstS, if_pos (by rw [i_le] at h5; rw [i_lt]; omega)]))

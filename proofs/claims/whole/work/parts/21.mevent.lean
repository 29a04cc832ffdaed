/-! THE MODEL: EVENTS -/
def mE (I : Nat → Nat → Int32) (e : Nat) : Nat → Int32 := fun k => I 173 (22 * e + k)
theorem lc_lt {x y : Int64} : lg_cmp x y < 0 ↔ x.toInt < y.toInt := by rw [lg_cmp_lt, l_lt]
theorem lc_ge {x y : Int64} : 0 ≤ lg_cmp x y ↔ y.toInt ≤ x.toInt := by rw [lg_cmp_ge, l_le]
theorem lc_gt {x y : Int64} : 0 < lg_cmp x y ↔ y.toInt < x.toInt := by rw [lg_cmp_gt, l_lt]
set_option maxRecDepth 20000 in
theorem d_in (l : Launch) (G : GT) (w : Wd) (v lo hi : Int64) : Mt l G mX12_in (0) 0 0 [.long v, .long lo, .long hi] w (pV (.int (b2 (lo.toInt ≤ v.toInt ∧ v.toInt ≤ hi.toInt))) w) := by
  refine mt_of (own := RX12) (by decide) rfl rfl (fun Z C P B => ?_)
  have D := @dc_of _ _ dX12_in
  refine j_lload_n C (D 0 rfl) rfl ?_
  refine j_lload_n C (D 1 rfl) rfl ?_
  refine j_lcmp C (D 2 rfl) ?_
  refine j_if_lt C  17 (D 3 rfl) (by decide) (fun h3 => ?_) (fun h3 => ?_)
  · refine j_iconst C (v := nI 0) (D 10 rfl) rfl ?_
    exact j_zret C P rfl (by first | exact isB_1 | exact isB_0) (D 11 rfl) ⟨Nat.le_refl _, Nat.le_refl _⟩ (pv_i (b2_f (fun z => by rw [lc_lt] at h3; omega)))
  · refine j_lload_n C (D 4 rfl) rfl ?_
    refine j_lload C (D 5 rfl) rfl ?_
    refine j_lcmp C (D 6 rfl) ?_
    refine j_if_gt C  17 (D 7 rfl) (by decide) (fun h10 => ?_) (fun h10 => ?_)
    · refine j_iconst C (v := nI 0) (D 10 rfl) rfl ?_
      exact j_zret C P rfl (by first | exact isB_1 | exact isB_0) (D 11 rfl) ⟨Nat.le_refl _, Nat.le_refl _⟩ (pv_i (b2_f (fun z => by rw [lc_gt] at h10; omega)))
    · refine j_iconst C (v := nI 1) (D 8 rfl) rfl ?_
      refine j_goto C 18 (D 9 rfl) (by decide) ?_
      exact j_zret C P rfl (by first | exact isB_1 | exact isB_0) (D 11 rfl) ⟨Nat.le_refl _, Nat.le_refl _⟩ (pv_i (b2_t (by rw [lc_lt] at h3; rw [lc_gt] at h10; omega)))
theorem l0' : (0 : Int64).toInt = 0 := by decide
set_option maxRecDepth 20000 in
theorem d_isMark (l : Launch) (G : GT) (w : Wd) (m : Int32) : Mt l G mX12_isMark (1) 0 0 [.int m] w (pV (.int (b2 (0 ≤ m ∧ m ≤ 99999))) w) := by
  refine mt_of (own := RX12) (by decide) rfl rfl (fun Z C P B => ?_)
  have D := @dc_of _ _ dX12_isMark
  refine j_iload_n C (D 0 rfl) rfl ?_
  refine j_i2l C (D 1 rfl) ?_
  refine j_lconst C (v := 0) (D 2 rfl) rfl ?_
  refine j_ldc2_w C (v := 99999) (D 3 rfl) n_X12_175 ?_
  refine j_cSp C B k_X12_99 (d_in _ _ _ _ _ _) rfl rfl rfl rfl ⟨Nat.le_refl _, Nat.le_refl _⟩ (D 4 rfl) ?_
  exact j_zret C P rfl (isB_b2 _) (D 5 rfl) ⟨Nat.le_refl _, Nat.le_refl _⟩ (pv_i (b2_congr (by rw [i_l, l0', i_le, i_le, i0, i99, show (99999 : Int64).toInt = 99999 by decide])))
set_option maxRecDepth 20000 in
theorem d_isEvent (l : Launch) (G : GT) {I : Nat → Nat → Int32} {L : Nat → Nat → Int64} {R : Nat → Nat → Option Nat} (hL : Lay R) (n : Nat) (hn : I 172 2 = nI n) (h10 : n ≤ 10) (e : Int32) : Mt l G mX12_isEvent (1) 0 0 [.ref (ra G 172), .int e] (wd I L R) (pV (.int (b2 (0 ≤ e.toInt ∧ e.toInt < n))) (wd I L R)) := by
  refine mt_of (own := RX12) (by decide) rfl rfl (fun Z C P B => ?_)
  have D := @dc_of _ _ dX12_isEvent
  refine j_iload_n C (D 0 rfl) rfl ?_
  refine j_i2l C (D 1 rfl) ?_
  refine j_lconst C (v := 0) (D 2 rfl) rfl ?_
  refine j_aload_n C (D 3 rfl) rfl ?_
  refine j_geti C f_X12_300 (lit (kd := 12) (n := 48) rfl) rfl rfl (D 4 rfl) ?_
  rw [hn]
  refine j_iconst C (v := nI 1) (D 5 rfl) rfl ?_
  refine j_isub C (D 6 rfl) ?_
  refine j_i2l C (D 7 rfl) ?_
  refine j_cSp C B k_X12_99 (d_in _ _ _ _ _ _) rfl rfl rfl rfl ⟨Nat.le_refl _, Nat.le_refl _⟩ (D 8 rfl) ?_
  exact j_zret C P rfl (isB_b2 _) (D 9 rfl) ⟨Nat.le_refl _, Nat.le_refl _⟩ (pv_i (b2_congr (by rw [i_l, l0', i_l, i_sub (by rw [nI_int (by omega), nI_int (by decide)]; omega) (by rw [nI_int (by omega), nI_int (by decide)]; omega), nI_int (by omega), nI_int (by decide)]; omega)))
set_option maxRecDepth 20000 in
theorem d_isOne (l : Launch) (G : GT) {I : Nat → Nat → Int32} {L : Nat → Nat → Int64} {R : Nat → Nat → Option Nat} (hL : Lay R) (n : Nat) (hn : I 172 3 = nI n) (h10 : n ≤ 10) (e : Int32) : Mt l G mX12_isOne (1) 0 0 [.ref (ra G 172), .int e] (wd I L R) (pV (.int (b2 (0 ≤ e.toInt ∧ e.toInt < n))) (wd I L R)) := by
  refine mt_of (own := RX12) (by decide) rfl rfl (fun Z C P B => ?_)
  have D := @dc_of _ _ dX12_isOne
  refine j_iload_n C (D 0 rfl) rfl ?_
  refine j_i2l C (D 1 rfl) ?_
  refine j_lconst C (v := 0) (D 2 rfl) rfl ?_
  refine j_aload_n C (D 3 rfl) rfl ?_
  refine j_geti C f_X12_303 (lit (kd := 12) (n := 48) rfl) rfl rfl (D 4 rfl) ?_
  rw [hn]
  refine j_iconst C (v := nI 1) (D 5 rfl) rfl ?_
  refine j_isub C (D 6 rfl) ?_
  refine j_i2l C (D 7 rfl) ?_
  refine j_cSp C B k_X12_99 (d_in _ _ _ _ _ _) rfl rfl rfl rfl ⟨Nat.le_refl _, Nat.le_refl _⟩ (D 8 rfl) ?_
  exact j_zret C P rfl (isB_b2 _) (D 9 rfl) ⟨Nat.le_refl _, Nat.le_refl _⟩ (pv_i (b2_congr (by rw [i_l, l0', i_l, i_sub (by rw [nI_int (by omega), nI_int (by decide)]; omega) (by rw [nI_int (by omega), nI_int (by decide)]; omega), nI_int (by omega), nI_int (by decide)]; omega)))
set_option maxRecDepth 20000 in
theorem d_isBoth (l : Launch) (G : GT) {I : Nat → Nat → Int32} {L : Nat → Nat → Int64} {R : Nat → Nat → Option Nat} (hL : Lay R) (nA nE : Nat) (hA : I 172 3 = nI nA) (hA8 : nA ≤ 10) (hE : I 172 2 = nI nE) (hE10 : nE ≤ 10) (a e : Int32) : Mt l G mX12_isBoth (2) 0 0 [.ref (ra G 172), .int a, .int e] (wd I L R) (pV (.int (b2 ((0 ≤ a.toInt ∧ a.toInt < nA) ∧ (0 ≤ e.toInt ∧ e.toInt < nE)))) (wd I L R)) := by
  refine mt_of (own := RX12) (by decide) rfl rfl (fun Z C P B => ?_)
  have D := @dc_of _ _ dX12_isBoth
  refine j_aload_n C (D 0 rfl) rfl ?_
  refine j_iload_n C (D 1 rfl) rfl ?_
  refine j_cVp C B k_X12_317 (rc_obj C (lit (kd := 12) (n := 48) rfl) rfl rfl) (d_isOne _ _ hL nA hA hA8 a) rfl rfl rfl rfl ⟨Nat.le_refl _, Nat.le_refl _⟩ (D 2 rfl) ?_
  refine j_if_eq C  20 (D 3 rfl) (by decide) (fun h5 => ?_) (fun h5 => ?_)
  · refine j_iconst C (v := nI 0) (D 10 rfl) rfl ?_
    exact j_zret C P rfl (by first | exact isB_1 | exact isB_0) (D 11 rfl) ⟨Nat.le_refl _, Nat.le_refl _⟩ (pv_i (b2_f (fun z => b2_eq h5 z.1)))
  · refine j_aload_n C (D 4 rfl) rfl ?_
    refine j_iload_n C (D 5 rfl) rfl ?_
    refine j_cVp C B k_X12_320 (rc_obj C (lit (kd := 12) (n := 48) rfl) rfl rfl) (d_isEvent _ _ hL nE hE hE10 e) rfl rfl rfl rfl ⟨Nat.le_refl _, Nat.le_refl _⟩ (D 6 rfl) ?_
    refine j_if_eq C  20 (D 7 rfl) (by decide) (fun h13 => ?_) (fun h13 => ?_)
    · refine j_iconst C (v := nI 0) (D 10 rfl) rfl ?_
      exact j_zret C P rfl (by first | exact isB_1 | exact isB_0) (D 11 rfl) ⟨Nat.le_refl _, Nat.le_refl _⟩ (pv_i (b2_f (fun z => b2_eq h13 z.2)))
    · refine j_iconst C (v := nI 1) (D 8 rfl) rfl ?_
      refine j_goto C 21 (D 9 rfl) (by decide) ?_
      exact j_zret C P rfl (by first | exact isB_1 | exact isB_0) (D 11 rfl) ⟨Nat.le_refl _, Nat.le_refl _⟩ (pv_i (b2_t ⟨b2_ne h5, b2_ne h13⟩))
set_option maxRecDepth 20000 in
theorem d_ofEvent (l : Launch) (G : GT) {I : Nat → Nat → Int32} {L : Nat → Nat → Int64} {R : Nat → Nat → Option Nat} (hL : Lay R) (e k : Nat) (he : e < 10) (hk : k < 22) : Mt l G mX12_ofEvent (0) 0 0 [.ref (ra G 172), .int (nI e), .int (nI k)] (wd I L R) (pV (.int (mE I e k)) (wd I L R)) := by
  refine mt_of (own := RX12) (by decide) rfl rfl (fun Z C P B => ?_)
  have D := @dc_of _ _ dX12_ofEvent
  refine j_aload_n C (D 0 rfl) rfl ?_
  refine j_getr C f_X12_9 (lit (kd := 12) (n := 48) rfl) rfl rfl (hL _ _ _ rfl) (D 1 rfl) ?_
  refine j_bipush C (v := nI 22) (D 2 rfl) rfl ?_
  refine j_iload_n C (D 3 rfl) rfl ?_
  refine j_imul C (D 4 rfl) ?_
  rw [pk_mul]
  refine j_iload_n C (D 5 rfl) rfl ?_
  refine j_iadd C (D 6 rfl) ?_
  rw [nI_add]
  refine j_iald C (lit (kd := 20) (n := 220) rfl) (ix_n (by omega) (by decide)) (D 7 rfl) ?_
  exact j_iret C P rfl (D 8 rfl) ⟨Nat.le_refl _, Nat.le_refl _⟩ (pv_i rfl)
theorem lNt {n : Nat} (h : n < 2147483648) : (lN n).toInt = n := lN_toInt h
theorem l1N : (1 : Int64) = lN 1 := rfl
theorem l2N : (2 : Int64) = lN 2 := rfl
set_option maxRecDepth 20000 in
theorem d_rootOf (l : Launch) (G : GT) (w : Wd) (v : Int64) (k : Nat) (hv : v.toInt = k) (hk : k < 16008001) : Mt l G mX12_rootOf (0) 0 0 [.long v] w (pV (.long (lN (isq k))) w) := by
  refine mt_of (own := RX12) (by decide) rfl rfl (fun Z C P B => ?_)
  have D := @dc_of _ _ dX12_rootOf
  have Lp : ∀ (n a b : Nat) (x6 x7 : Option Value), b - a ≤ n → a ≤ b → b ≤ 4000 → a * a ≤ k → k < (b + 1) * (b + 1) → J Z (0, 0) 7 [some (.long v), none, some (.long (lN a)), none, some (.long (lN b)), none, x6, x7] [] w := by
    intro n
    induction n with
    | zero =>
      intro a b x6 x7 hn hab4 h4 h1 h2
      have hab : a = b := by omega
      refine j_lload_n C (D 4 rfl) rfl ?_
      refine j_lload C (D 5 rfl) rfl ?_
      refine j_lcmp C (D 6 rfl) ?_
      refine j_if_ge C  51 (D 7 rfl) (by decide) (fun h11 => ?_) (fun h11 => absurd h11 (fun z => z (by rw [lc_ge, lNt (by omega), lNt (by omega)]; omega)))
      refine j_lload_n C (D 30 rfl) rfl ?_
      exact j_lret C P rfl (D 31 rfl) ⟨Nat.le_refl _, Nat.le_refl _⟩ (pv_l (congrArg lN (isq_uniq h1 (by rw [hab]; exact h2))))
    | succ n ih =>
      intro a b x6 x7 hn hab4 h4 h1 h2
      by_cases hab : a = b
      · -- at the end
        refine j_lload_n C (D 4 rfl) rfl ?_
        refine j_lload C (D 5 rfl) rfl ?_
        refine j_lcmp C (D 6 rfl) ?_
        refine j_if_ge C  51 (D 7 rfl) (by decide) (fun h11 => ?_) (fun h11 => absurd h11 (fun z => z (by rw [lc_ge, lNt (by omega), lNt (by omega)]; omega)))
        refine j_lload_n C (D 30 rfl) rfl ?_
        exact j_lret C P rfl (D 31 rfl) ⟨Nat.le_refl _, Nat.le_refl _⟩ (pv_l (congrArg lN (isq_uniq h1 (by rw [hab]; exact h2))))
      · have hm : (a + b + 1) / 2 * ((a + b + 1) / 2) ≤ 4000 * 4000 := Nat.mul_le_mul (by omega) (by omega)
        refine j_lload_n C (D 4 rfl) rfl ?_
        refine j_lload C (D 5 rfl) rfl ?_
        refine j_lcmp C (D 6 rfl) ?_
        refine j_if_ge C  51 (D 7 rfl) (by decide) (fun h11 => absurd h11 (fun z => by rw [lc_ge, lNt (by omega), lNt (by omega)] at z; omega)) (fun h11 => ?_)
        refine j_lload_n C (D 8 rfl) rfl ?_
        refine j_lload C (D 9 rfl) rfl ?_
        refine j_ladd C (D 10 rfl) ?_
        rw [lN_add]
        refine j_lconst C (v := 1) (D 11 rfl) rfl ?_
        refine j_ladd C (D 12 rfl) ?_
        rw [lN_1]
        refine j_ldc2_w C (v := 2) (D 13 rfl) n_X12_330 ?_
        refine j_ldiv C (D 14 rfl) (by decide) ?_
        rw [l2N, pk_lDiv (by omega) (by decide) (by decide)]
        refine j_lstore C (D 15 rfl) rfl ?_
        refine j_lload C (D 16 rfl) rfl ?_
        refine j_lload C (D 17 rfl) rfl ?_
        refine j_lmul C (D 18 rfl) ?_
        rw [lN_mul]
        refine j_lload_n C (D 19 rfl) rfl ?_
        refine j_lcmp C (D 20 rfl) ?_
        refine j_if_gt C  42 (D 21 rfl) (by decide) (fun h33 => ?_) (fun h33 => ?_)
        · refine j_lload C (D 25 rfl) rfl ?_
          refine j_lconst C (v := 1) (D 26 rfl) rfl ?_
          refine j_lsub C (D 27 rfl) ?_
          rw [l1N, lN_sub (by omega)]
          refine j_lstore C (D 28 rfl) rfl ?_
          refine j_goto C 7 (D 29 rfl) (by decide) ?_
          exact ih a ((a + b + 1) / 2 - 1) _ _ (by omega) (by omega) (by omega) h1 (by rw [lc_gt, lNt (by omega), hv] at h33; rw [show (a + b + 1) / 2 - 1 + 1 = (a + b + 1) / 2 by omega]; omega)
        · refine j_lload C (D 22 rfl) rfl ?_
          refine j_lstore_n C (D 23 rfl) rfl ?_
          refine j_goto C 48 (D 24 rfl) (by decide) ?_
          refine j_goto C 7 (D 29 rfl) (by decide) ?_
          exact ih ((a + b + 1) / 2) b _ _ (by omega) (by omega) h4 (by rw [lc_gt, lNt (by omega), hv] at h33; omega) h2
  refine j_lconst C (v := 0) (D 0 rfl) rfl ?_
  refine j_lstore_n C (D 1 rfl) rfl ?_
  refine j_ldc2_w C (v := 4000) (D 2 rfl) n_X12_328 ?_
  refine j_lstore C (D 3 rfl) rfl ?_
  exact Lp 4000 0 4000 _ _ (by omega) (by omega) (by omega) (by omega) (by omega)
theorem tab_l {X0 X1 W0 W1 : Int32} {d : Int64} {n : Int} (hd : d.toInt = n) (hn : n ≤ 99999) (a0 : 0 ≤ X0.toInt) (a1 : X0.toInt ≤ X1.toInt) (a2 : X1.toInt ≤ 2000) (b0 : 0 ≤ W0.toInt) (b1 : W0.toInt ≤ n) (b2 : n < W1.toInt) (b3 : W1.toInt ≤ 99999) : (X0.toInt64 + (d - W0.toInt64) * (X1.toInt64 - X0.toInt64) / (W1.toInt64 - W0.toInt64)).toInt = X0.toInt + (n - W0.toInt) * (X1.toInt - X0.toInt) / (W1.toInt - W0.toInt) := by
  have e1 : (d - W0.toInt64).toInt = n - W0.toInt := by rw [l_sub (by rw [i_l]; omega) (by rw [i_l]; omega), i_l, hd]
  have e2 : (X1.toInt64 - X0.toInt64).toInt = X1.toInt - X0.toInt := by rw [l_sub (by rw [i_l, i_l]; omega) (by rw [i_l, i_l]; omega), i_l, i_l]
  have e3 : (W1.toInt64 - W0.toInt64).toInt = W1.toInt - W0.toInt := by rw [l_sub (by rw [i_l, i_l]; omega) (by rw [i_l, i_l]; omega), i_l, i_l]
  have p0 : 0 ≤ (n - W0.toInt) * (X1.toInt - X0.toInt) := Int.mul_nonneg (by omega) (by omega)
  have p1 : (n - W0.toInt) * (X1.toInt - X0.toInt) ≤ 99999 * 2000 := Int.mul_le_mul (by omega) (by omega) (by omega) (by omega)
  have e4 : ((d - W0.toInt64) * (X1.toInt64 - X0.toInt64)).toInt = (n - W0.toInt) * (X1.toInt - X0.toInt) := by rw [l_mul (by rw [e1, e2]; omega) (by rw [e1, e2]; omega), e1, e2]
  have e5 : ((d - W0.toInt64) * (X1.toInt64 - X0.toInt64) / (W1.toInt64 - W0.toInt64)).toInt = (n - W0.toInt) * (X1.toInt - X0.toInt) / (W1.toInt - W0.toInt) := by rw [l_div (by rw [e4]; exact p0) (by rw [e3]; omega), e4, e3]
  have q0 : 0 ≤ (n - W0.toInt) * (X1.toInt - X0.toInt) / (W1.toInt - W0.toInt) := dvn p0 (by omega)
  have q1 : (n - W0.toInt) * (X1.toInt - X0.toInt) / (W1.toInt - W0.toInt) ≤ 2000 := by
    have : (n - W0.toInt) * (X1.toInt - X0.toInt) / (W1.toInt - W0.toInt) ≤ X1.toInt - X0.toInt := by
      apply Int.ediv_le_of_le_mul (by omega)
      rw [Int.mul_comm]
      exact Int.mul_le_mul_of_nonneg_left (by omega) (by omega)
    omega
  rw [l_add (by rw [e5, i_l]; omega) (by rw [e5, i_l]; omega), e5, i_l]
theorem m1N : nI 0 - nI 1 = (-1 : Int32) := by decide
theorem eq_ofL {x : Int64} {z : Int} (h : x.toInt = z) : x = Int64.ofInt z := by rw [← h, Int64.ofInt_toInt]
/-- one less than b, as the model counts -/
def pr (b : Nat) : Int32 := nI b - nI 1
theorem pr_int {b : Nat} (h : b ≤ 8) : (pr b).toInt = (b : Int) - 1 := by unfold pr; rw [i_sub (by rw [nI_int (by omega), nI_int (by decide)]; omega) (by rw [nI_int (by omega), nI_int (by decide)]; omega), nI_int (by omega), nI_int (by decide)]; rfl
theorem pr_s (b : Nat) : pr (b + 1) = nI b := by unfold pr; rw [pk_sub (by omega)]; rfl
theorem pr_1 (b : Nat) : pr b + nI 1 = nI b := by unfold pr; exact Int32.sub_add_cancel _ _
theorem pr_i (b : Nat) : pr b + Int32.ofInt 1 = pr (b + 1) := by rw [pr_s]; exact pr_1 b
set_option maxRecDepth 20000 in
theorem d_tableOf (l : Launch) (G : GT) {I : Nat → Nat → Int32} {L : Nat → Nat → Int64} {R : Nat → Nat → Option Nat} (hL : Lay R) (e : Nat) (he : e < 10) (hE : WE (mE I e)) (hcur : mE I e 2 = 3) (d : Int64) (n : Int) (hd : d.toInt = n) (hn0 : 0 ≤ n) (hn : n ≤ 99999) : Mt l G mX12_tableOf (1) 0 0 [.ref (ra G 172), .int (nI e), .long d] (wd I L R) (pV (.long (Int64.ofInt (tabZ (mE I e) (mE I e 3).toInt.toNat n))) (wd I L R)) := by
  refine mt_of (own := RX12) (by decide) rfl rfl (fun Z C P B => ?_)
  have D := @dc_of _ _ dX12_tableOf
  obtain ⟨N, hN1, hN8, hN, hTb, hTs⟩ : ∃ N : Nat, 1 ≤ N ∧ N ≤ 8 ∧ mE I e 3 = nI N ∧ (∀ k, k < N → 0 ≤ tabW (mE I e) k ∧ tabW (mE I e) k ≤ 99999 ∧ 0 ≤ tabX (mE I e) k ∧ tabX (mE I e) k ≤ 2000) ∧ ∀ k, k + 1 < N → tabW (mE I e) k < tabW (mE I e) (k + 1) ∧ tabX (mE I e) k ≤ tabX (mE I e) (k + 1) := by
    rcases hE.2.2.2 with q | q
    · rcases q.1 with z | z | z <;> rw [z] at hcur <;> exact absurd hcur (by decide)
    · exact q.2.2
  have hNt : (mE I e 3).toInt = N := by rw [hN, nI_int (by omega)]
  rw [hNt, show (N : Int).toNat = N from rfl] at P
  have K : ∀ b : Nat, beh (tabW (mE I e)) n N 0 = b → J Z (0, 0) 46 [some (.ref (ra G 172)), some (.int (nI e)), some (.long d), none, some (.int (pr N)), some (.int (pr b)), none, none, none, none, none, none] [] (wd I L R) := by
    intro b hb
    have hble : b ≤ N := by have := beh_le (tabW (mE I e)) n N 0; omega
    have hb0 : pr b = -1 → b = 0 := fun z => by have := i_eq.mp z; rw [pr_int (by omega), show (-1 : Int32).toInt = -1 by decide] at this; omega
    have hbz : ¬ pr b = -1 → b ≠ 0 := fun z q => z (by rw [q]; decide)
    have hbN' : ∀ {c : Nat}, c + 1 ≤ 8 → nI c = pr N → c + 1 = N := fun hc z => by have := i_eq.mp z; rw [pr_int (by omega), nI_int (by omega)] at this; omega
    refine j_iload C (D 28 rfl) rfl ?_
    refine j_iconst C (v := (-1)) (D 29 rfl) rfl ?_
    refine j_icmp_ne C  54 (D 30 rfl) (by decide) (fun h49 => ?_) (fun h49 => ?_)
    · obtain ⟨c, rfl⟩ : ∃ c, b = c + 1 := ⟨b - 1, by have := hbz h49; omega⟩
      rw [pr_s]
      have hT0 := hTb c (by omega)
      refine j_aload_n C (D 33 rfl) rfl ?_
      refine j_iload_n C (D 34 rfl) rfl ?_
      refine j_bipush C (v := nI 6) (D 35 rfl) rfl ?_
      refine j_iconst C (v := nI 2) (D 36 rfl) rfl ?_
      refine j_iload C (D 37 rfl) rfl ?_
      refine j_imul C (D 38 rfl) ?_
      refine j_iadd C (D 39 rfl) ?_
      rw [pk_mul, nI_add]
      refine j_iconst C (v := nI 1) (D 40 rfl) rfl ?_
      refine j_iadd C (D 41 rfl) ?_
      rw [nI_add]
      refine j_cVp C B k_X12_325 (rc_obj C (lit (kd := 12) (n := 48) rfl) rfl rfl) (d_ofEvent _ _ hL e (6 + 2 * c + 1) he (by omega)) rfl rfl rfl rfl ⟨Nat.le_refl _, Nat.le_refl _⟩ (D 42 rfl) ?_
      refine j_i2l C (D 43 rfl) ?_
      refine j_lstore C (D 44 rfl) rfl ?_
      refine j_iload C (D 45 rfl) rfl ?_
      refine j_iload C (D 46 rfl) rfl ?_
      refine j_icmp_ne C  81 (D 47 rfl) (by decide) (fun h75 => ?_) (fun h75 => ?_)
      · have hcn : c + 1 < N := by have := h75; rw [i_eq, nI_int (by omega), pr_int (by omega)] at this; omega
        have hT1 := hTb (c + 1) (by omega)
        have hst := hTs c hcn
        have hq0 : tabW (mE I e) c ≤ n := beh_in _ n N 0 c (by omega) (by rw [hb]; omega)
        have hq1 : n < tabW (mE I e) (c + 1) := by have := beh_out (tabW (mE I e)) n N 0 (by rw [hb]; omega); rw [hb] at this; exact this
        have ex : tabX (mE I e) (c + 1) = (mE I e (6 + 2 * c + 3)).toInt := by unfold tabX; rw [show 6 + 2 * (c + 1) + 1 = 6 + 2 * c + 3 by omega]
        have ew : tabW (mE I e) (c + 1) = (mE I e (6 + 2 * c + 2)).toInt := by unfold tabW; rw [show 6 + 2 * (c + 1) = 6 + 2 * c + 2 by omega]
        have ex0 : tabX (mE I e) c = (mE I e (6 + 2 * c + 1)).toInt := rfl
        have ew0 : tabW (mE I e) c = (mE I e (6 + 2 * c)).toInt := rfl
        refine j_aload_n C (D 50 rfl) rfl ?_
        refine j_iload_n C (D 51 rfl) rfl ?_
        refine j_bipush C (v := nI 6) (D 52 rfl) rfl ?_
        refine j_iconst C (v := nI 2) (D 53 rfl) rfl ?_
        refine j_iload C (D 54 rfl) rfl ?_
        refine j_imul C (D 55 rfl) ?_
        refine j_iadd C (D 56 rfl) ?_
        rw [pk_mul, nI_add]
        refine j_cVp C B k_X12_325 (rc_obj C (lit (kd := 12) (n := 48) rfl) rfl rfl) (d_ofEvent _ _ hL e (6 + 2 * c) he (by omega)) rfl rfl rfl rfl ⟨Nat.le_refl _, Nat.le_refl _⟩ (D 57 rfl) ?_
        refine j_i2l C (D 58 rfl) ?_
        refine j_lstore C (D 59 rfl) rfl ?_
        refine j_aload_n C (D 60 rfl) rfl ?_
        refine j_iload_n C (D 61 rfl) rfl ?_
        refine j_bipush C (v := nI 6) (D 62 rfl) rfl ?_
        refine j_iconst C (v := nI 2) (D 63 rfl) rfl ?_
        refine j_iload C (D 64 rfl) rfl ?_
        refine j_imul C (D 65 rfl) ?_
        refine j_iadd C (D 66 rfl) ?_
        rw [pk_mul, nI_add]
        refine j_iconst C (v := nI 2) (D 67 rfl) rfl ?_
        refine j_iadd C (D 68 rfl) ?_
        rw [nI_add]
        refine j_cVp C B k_X12_325 (rc_obj C (lit (kd := 12) (n := 48) rfl) rfl rfl) (d_ofEvent _ _ hL e (6 + 2 * c + 2) he (by omega)) rfl rfl rfl rfl ⟨Nat.le_refl _, Nat.le_refl _⟩ (D 69 rfl) ?_
        refine j_i2l C (D 70 rfl) ?_
        refine j_lload C (D 71 rfl) rfl ?_
        refine j_lsub C (D 72 rfl) ?_
        refine j_lstore C (D 73 rfl) rfl ?_
        refine j_lload C (D 74 rfl) rfl ?_
        refine j_lload_n C (D 75 rfl) rfl ?_
        refine j_lload C (D 76 rfl) rfl ?_
        refine j_lsub C (D 77 rfl) ?_
        refine j_aload_n C (D 78 rfl) rfl ?_
        refine j_iload_n C (D 79 rfl) rfl ?_
        refine j_bipush C (v := nI 6) (D 80 rfl) rfl ?_
        refine j_iconst C (v := nI 2) (D 81 rfl) rfl ?_
        refine j_iload C (D 82 rfl) rfl ?_
        refine j_imul C (D 83 rfl) ?_
        refine j_iadd C (D 84 rfl) ?_
        rw [pk_mul, nI_add]
        refine j_iconst C (v := nI 3) (D 85 rfl) rfl ?_
        refine j_iadd C (D 86 rfl) ?_
        rw [nI_add]
        refine j_cVp C B k_X12_325 (rc_obj C (lit (kd := 12) (n := 48) rfl) rfl rfl) (d_ofEvent _ _ hL e (6 + 2 * c + 3) he (by omega)) rfl rfl rfl rfl ⟨Nat.le_refl _, Nat.le_refl _⟩ (D 87 rfl) ?_
        refine j_i2l C (D 88 rfl) ?_
        refine j_lload C (D 89 rfl) rfl ?_
        refine j_lsub C (D 90 rfl) ?_
        refine j_lmul C (D 91 rfl) ?_
        refine j_lload C (D 92 rfl) rfl ?_
        refine j_ldiv C (D 93 rfl) (fun z => by have := l_eq.mp z; rw [l_sub (by rw [i_l, i_l]; omega) (by rw [i_l, i_l]; omega), i_l, i_l, l0'] at this; omega) ?_
        refine j_ladd C (D 94 rfl) ?_
        exact j_lret C P rfl (D 95 rfl) ⟨Nat.le_refl _, Nat.le_refl _⟩ (pv_l (eq_ofL (by rw [tabZ, if_neg (by rw [hb]; omega), if_neg (by rw [hb]; omega), hb, show c + 1 - 1 = c by omega, ex, ew, ex0, ew0]; exact tab_l hd (by omega) (by omega) (by omega) (by omega) (by omega) (by omega) (by omega) (by omega))))
      · refine j_lload C (D 48 rfl) rfl ?_
        exact j_lret C P rfl (D 49 rfl) ⟨Nat.le_refl _, Nat.le_refl _⟩ (pv_l (eq_ofL (by rw [i_l, tabZ, if_neg (by rw [hb]; omega), if_pos (by rw [hb]; exact hbN' (by omega) h75), ← hbN' (by omega) h75]; rfl)))
    · refine j_lconst C (v := 0) (D 31 rfl) rfl ?_
      exact j_lret C P rfl (D 32 rfl) ⟨Nat.le_refl _, Nat.le_refl _⟩ (pv_l (by rw [tabZ, if_pos (by rw [hb]; exact hb0 h49)]; rfl))
  have Lp : ∀ (m b : Nat), b + m = N → beh (tabW (mE I e)) n N 0 = beh (tabW (mE I e)) n m b → J Z (0, 0) 13 [some (.ref (ra G 172)), some (.int (nI e)), some (.long d), none, some (.int (pr N)), some (.int (pr b)), none, none, none, none, none, none] [] (wd I L R) := by
    intro m
    induction m with
    | zero =>
      intro b hbn hbb
      refine j_iload C (D 9 rfl) rfl ?_
      refine j_iload C (D 10 rfl) rfl ?_
      refine j_icmp_ge C  46 (D 11 rfl) (by decide) (fun h17 => ?_) (fun h17 => absurd h17 (fun z => z (i_le.mpr (by rw [pr_int (by omega), pr_int (by omega)]; omega))))
      exact K b (by rw [hbb]; rfl)
    | succ m ih =>
      intro b hbn hbb
      refine j_iload C (D 9 rfl) rfl ?_
      refine j_iload C (D 10 rfl) rfl ?_
      refine j_icmp_ge C  46 (D 11 rfl) (by decide) (fun h17 => absurd h17 (fun z => by rw [i_le, pr_int (by omega), pr_int (by omega)] at z; omega)) (fun h17 => ?_)
      refine j_lload_n C (D 12 rfl) rfl ?_
      refine j_aload_n C (D 13 rfl) rfl ?_
      refine j_iload_n C (D 14 rfl) rfl ?_
      refine j_bipush C (v := nI 6) (D 15 rfl) rfl ?_
      refine j_iconst C (v := nI 2) (D 16 rfl) rfl ?_
      refine j_iload C (D 17 rfl) rfl ?_
      refine j_iconst C (v := nI 1) (D 18 rfl) rfl ?_
      refine j_iadd C (D 19 rfl) ?_
      rw [pr_1]
      refine j_imul C (D 20 rfl) ?_
      refine j_iadd C (D 21 rfl) ?_
      rw [pk_mul, nI_add]
      refine j_cVp C B k_X12_325 (rc_obj C (lit (kd := 12) (n := 48) rfl) rfl rfl) (d_ofEvent _ _ hL e (6 + 2 * b) he (by omega)) rfl rfl rfl rfl ⟨Nat.le_refl _, Nat.le_refl _⟩ (D 22 rfl) ?_
      refine j_i2l C (D 23 rfl) ?_
      refine j_lcmp C (D 24 rfl) ?_
      refine j_if_lt C  46 (D 25 rfl) (by decide) (fun h37 => ?_) (fun h37 => ?_)
      · exact K b (by rw [hbb, beh, if_neg (by rw [lc_lt, i_l, hd] at h37; unfold tabW; omega)])
      · refine j_iinc C (D 26 rfl) rfl rfl rfl ?_
        rw [pr_i]
        refine j_goto C 13 (D 27 rfl) (by decide) ?_
        exact ih (b + 1) (by omega) (by rw [hbb, beh, if_pos (by rw [lc_lt, i_l, hd] at h37; unfold tabW; omega)])
  refine j_aload_n C (D 0 rfl) rfl ?_
  refine j_iload_n C (D 1 rfl) rfl ?_
  refine j_iconst C (v := nI 3) (D 2 rfl) rfl ?_
  refine j_cVp C B k_X12_325 (rc_obj C (lit (kd := 12) (n := 48) rfl) rfl rfl) (d_ofEvent _ _ hL e (3) he (by omega)) rfl rfl rfl rfl ⟨Nat.le_refl _, Nat.le_refl _⟩ (D 3 rfl) ?_
  refine j_iconst C (v := nI 1) (D 4 rfl) rfl ?_
  rw [hN]
  refine j_isub C (D 5 rfl) ?_
  refine j_istore C (D 6 rfl) rfl ?_
  refine j_iconst C (v := pr 0) (D 7 rfl) (by decide) ?_
  refine j_istore C (D 8 rfl) rfl ?_
  exact Lp N 0 (by omega) rfl
theorem minL2 {q : Int64} {Q : Int} (h : q.toInt = Q) (h0 : 0 ≤ Q) : (if q < (2000 : Int64) then q else (2000 : Int64)).toInt32 = Int32.ofInt (min 2000 Q) := by
  have e2 : (2000 : Int64).toInt = 2000 := by decide
  by_cases c : q < (2000 : Int64)
  · rw [if_pos c]
    rw [l_lt, e2, h] at c
    apply eq_ofI
    rw [l_i (by omega) (by omega), h]
    omega
  · rw [if_neg c]
    rw [l_lt, e2, h] at c
    rw [show min 2000 Q = 2000 by omega]
    decide
theorem ofL {z : Int} (h1 : -9223372036854775808 ≤ z) (h2 : z ≤ 9223372036854775807) : (Int64.ofInt z).toInt = z := by
  rw [Int64.toInt_ofInt]
  show Int.bmod z 18446744073709551616 = z
  exact Int.bmod_eq_of_le (by omega) (by omega)
theorem nI_0' {x : Int32} (h : x.toInt = 0) : x = 0 := i_eq.mpr (by rw [h]; rfl)
set_option maxRecDepth 20000 in
theorem d_pointsOf (l : Launch) (G : GT) {I : Nat → Nat → Int32} {L : Nat → Nat → Int64} {R : Nat → Nat → Option Nat} (hL : Lay R) (e : Nat) (he : e < 10) (hE : WE (mE I e)) (m : Int32) (hm : okM m) : Mt l G mX12_pointsOf (2) 0 0 [.ref (ra G 172), .int (nI e), .int m] (wd I L R) (pV (.int (pts (mE I e) m)) (wd I L R)) := by
  refine mt_of (own := RX12) (by decide) rfl rfl (fun Z C P B => ?_)
  have D := @dc_of _ _ dX12_pointsOf
  have hb := hE.2.1
  have K2 : ¬ wayZ (mE I e) m < 0 → ∀ (q : Int64) (Q : Int), q.toInt = Q → 0 ≤ Q → curZ (mE I e) (wayZ (mE I e) m) = min 2000 Q → ∀ (x3 : Int64) (x5 x7 : Int64) (x9 : Int32), ¬ m = -1 → J Z (0, 0) 137 [some (.ref (ra G 172)), some (.int (nI e)), some (.int m), some (.long x3), none, some (.long x5), none, some (.long x7), none, some (.int x9), some (.long q), none] [] (wd I L R) := by
    intro hge q Q hq h0 hcz x3 x5 x7 x9 hm1
    have hpt : pts (mE I e) m = Int32.ofInt (curZ (mE I e) (wayZ (mE I e) m)) := by rw [pts, ptsZ, if_neg hm1, if_neg hge]
    refine j_ldc2_w C (v := 2000) (D 86 rfl) n_X12_342 ?_
    refine j_lload C (D 87 rfl) rfl ?_
    refine j_mminL C B k_X12_344 rfl rfl ⟨Nat.le_refl _, Nat.le_refl _⟩ (D 88 rfl) ?_
    refine j_l2i C (D 89 rfl) ?_
    exact j_iret C P rfl (D 90 rfl) ⟨Nat.le_refl _, Nat.le_refl _⟩ (pv_i (by rw [hpt, hcz]; exact minL2 hq h0))
  have K1 : ¬ m = -1 → ∀ dd : Int64, dd.toInt = wayZ (mE I e) m → J Z (0, 0) 39 [some (.ref (ra G 172)), some (.int (nI e)), some (.int m), some (.long dd), none, none, none, none, none, none, none, none] [] (wd I L R) := by
    intro hm1 dd hd2
    have hmr : 0 ≤ m.toInt ∧ m.toInt ≤ 99999 := hm.resolve_left hm1
    have hwl : wayZ (mE I e) m ≤ 99999 := by unfold wayZ; by_cases q : mE I e 0 = 1 <;> simp only [q, if_true, if_false] <;> omega
    refine j_lload_n C (D 27 rfl) rfl ?_
    refine j_lconst C (v := 0) (D 28 rfl) rfl ?_
    refine j_lcmp C (D 29 rfl) ?_
    refine j_if_ge C  47 (D 30 rfl) (by decide) (fun h42 => ?_) (fun h42 => ?_)
    · have hge : ¬ wayZ (mE I e) m < 0 := by rw [lc_ge, l0', hd2] at h42; omega
      have hww : wayZ (mE I e) m * wayZ (mE I e) m ≤ 99999 * 99999 := Int.mul_le_mul (by omega) (by omega) (by omega) (by omega)
      have hww0 : 0 ≤ wayZ (mE I e) m * wayZ (mE I e) m := Int.mul_nonneg (by omega) (by omega)
      refine j_aload_n C (D 33 rfl) rfl ?_
      refine j_iload_n C (D 34 rfl) rfl ?_
      refine j_iconst C (v := nI 3) (D 35 rfl) rfl ?_
      refine j_cVp C B k_X12_325 (rc_obj C (lit (kd := 12) (n := 48) rfl) rfl rfl) (d_ofEvent _ _ hL e (3) he (by omega)) rfl rfl rfl rfl ⟨Nat.le_refl _, Nat.le_refl _⟩ (D 36 rfl) ?_
      refine j_i2l C (D 37 rfl) ?_
      refine j_lstore C (D 38 rfl) rfl ?_
      refine j_aload_n C (D 39 rfl) rfl ?_
      refine j_iload_n C (D 40 rfl) rfl ?_
      refine j_iconst C (v := nI 4) (D 41 rfl) rfl ?_
      refine j_cVp C B k_X12_325 (rc_obj C (lit (kd := 12) (n := 48) rfl) rfl rfl) (d_ofEvent _ _ hL e (4) he (by omega)) rfl rfl rfl rfl ⟨Nat.le_refl _, Nat.le_refl _⟩ (D 42 rfl) ?_
      refine j_i2l C (D 43 rfl) ?_
      refine j_lstore C (D 44 rfl) rfl ?_
      refine j_aload_n C (D 45 rfl) rfl ?_
      refine j_iload_n C (D 46 rfl) rfl ?_
      refine j_iconst C (v := nI 2) (D 47 rfl) rfl ?_
      refine j_cVp C B k_X12_325 (rc_obj C (lit (kd := 12) (n := 48) rfl) rfl rfl) (d_ofEvent _ _ hL e (2) he (by omega)) rfl rfl rfl rfl ⟨Nat.le_refl _, Nat.le_refl _⟩ (D 48 rfl) ?_
      refine j_istore C (D 49 rfl) rfl ?_
      refine j_iload C (D 50 rfl) rfl ?_
      refine j_if_ne C  88 (D 51 rfl) (by decide) (fun h75 => ?_) (fun h75 => ?_)
      · refine j_iload C (D 58 rfl) rfl ?_
        refine j_iconst C (v := nI 1) (D 59 rfl) rfl ?_
        refine j_icmp_ne C  106 (D 60 rfl) (by decide) (fun h91 => ?_) (fun h91 => ?_)
        · refine j_iload C (D 69 rfl) rfl ?_
          refine j_iconst C (v := nI 2) (D 70 rfl) rfl ?_
          refine j_icmp_ne C  129 (D 71 rfl) (by decide) (fun h109 => ?_) (fun h109 => ?_)
          · have hc3 : mE I e 2 = 3 := hE.2.2.2.elim (fun q => by rcases q.1 with z | z | z; exact absurd z h75; exact absurd z h91; exact absurd z h109) (fun q => q.1)
            have hcr := curZ_rng hE (d := wayZ (mE I e) m) (by omega)
            have hct : curZ (mE I e) (wayZ (mE I e) m) = tabZ (mE I e) (mE I e 3).toInt.toNat (wayZ (mE I e) m) := by rw [curZ, if_neg (by rw [hc3]; decide), if_neg (by rw [hc3]; decide), if_neg (by rw [hc3]; decide)]
            rw [hct] at hcr
            refine j_aload_n C (D 81 rfl) rfl ?_
            refine j_iload_n C (D 82 rfl) rfl ?_
            refine j_lload_n C (D 83 rfl) rfl ?_
            refine j_cVp C B k_X12_338 (rc_obj C (lit (kd := 12) (n := 48) rfl) rfl rfl) (d_tableOf _ _ hL e he hE hc3 dd (wayZ (mE I e) m) hd2 (by omega) (by omega)) rfl rfl rfl rfl ⟨Nat.le_refl _, Nat.le_refl _⟩ (D 84 rfl) ?_
            refine j_lstore C (D 85 rfl) rfl ?_
            exact K2 hge _ _ (ofL (by omega) (by omega)) (by omega) (by rw [hct]; omega) _ _ _ _ hm1
          · have w34 : (1 ≤ (mE I e 3).toInt ∧ (mE I e 3).toInt ≤ 9999) ∧ (1 ≤ (mE I e 4).toInt ∧ (mE I e 4).toInt ≤ 99999) := hE.2.2.2.elim (fun q => q.2) (fun q => by rw [q.1] at h109; exact absurd h109 (by decide))
            have hsq : isq (100 * (wayZ (mE I e) m).toNat) < 4096 := sq_lt (by have := isq_le (100 * (wayZ (mE I e) m).toNat); omega)
            have h100 : ((100 : Int64) * dd).toInt = ((100 * (wayZ (mE I e) m).toNat : Nat) : Int) := by rw [l_mul (by rw [hd2]; show _ ≤ 100 * _; omega) (by rw [hd2]; show 100 * _ ≤ _; omega), hd2]; show 100 * _ = _; omega
            refine j_lload C (D 72 rfl) rfl ?_
            refine j_ldc2_w C (v := 100) (D 73 rfl) n_X12_332 ?_
            refine j_lload_n C (D 74 rfl) rfl ?_
            refine j_lmul C (D 75 rfl) ?_
            refine j_cSp C B k_X12_334 (d_rootOf _ _ _ _ (100 * (wayZ (mE I e) m).toNat) h100 (by omega)) rfl rfl rfl rfl ⟨Nat.le_refl _, Nat.le_refl _⟩ (D 76 rfl) ?_
            generalize hsqe : isq (100 * (wayZ (mE I e) m).toNat) = sq at hsq ⊢
            refine j_lmul C (D 77 rfl) ?_
            refine j_lload C (D 78 rfl) rfl ?_
            refine j_ldiv C (D 79 rfl) (ne0L (by omega)) ?_
            refine j_goto C 135 (D 80 rfl) (by decide) ?_
            refine j_lstore C (D 85 rfl) rfl ?_
            exact K2 hge _ _ (qL (a := mE I e 3) (c := mE I e 4) (B := (sq : Int)) (lNt (by omega)) (by omega) (by omega) (by omega) (by omega) (by omega)) (dvn (Int.mul_nonneg (by omega) (by omega)) (by omega)) (by rw [curZ, if_neg (by rw [h109]; decide), if_neg (by rw [h109]; decide), if_pos (show mE I e 2 = 2 from h109), hsqe]) _ _ _ _ hm1
        · have w34 : (1 ≤ (mE I e 3).toInt ∧ (mE I e 3).toInt ≤ 9999) ∧ (1 ≤ (mE I e 4).toInt ∧ (mE I e 4).toInt ≤ 99999) := hE.2.2.2.elim (fun q => q.2) (fun q => by rw [q.1] at h91; exact absurd h91 (by decide))
          refine j_lload C (D 61 rfl) rfl ?_
          refine j_lload_n C (D 62 rfl) rfl ?_
          refine j_lmul C (D 63 rfl) ?_
          refine j_lload_n C (D 64 rfl) rfl ?_
          refine j_lmul C (D 65 rfl) ?_
          refine j_lload C (D 66 rfl) rfl ?_
          refine j_ldiv C (D 67 rfl) (ne0L (by omega)) ?_
          refine j_goto C 135 (D 68 rfl) (by decide) ?_
          refine j_lstore C (D 85 rfl) rfl ?_
          exact K2 hge _ _ (by rw [show (mE I e 3).toInt64 * dd * dd = (mE I e 3).toInt64 * (dd * dd) from Int64.mul_assoc _ _ _]; exact qL (B := wayZ (mE I e) m * wayZ (mE I e) m) (by rw [l_mul (by rw [hd2]; omega) (by rw [hd2]; omega), hd2]) (by omega) (by omega) (by omega) (by omega) (by omega)) (dvn (Int.mul_nonneg (by omega) (by omega)) (by omega)) (by rw [curZ, if_neg (by rw [h91]; decide), if_pos (show mE I e 2 = 1 from h91)]) _ _ _ _ hm1
      · have w34 : (1 ≤ (mE I e 3).toInt ∧ (mE I e 3).toInt ≤ 9999) ∧ (1 ≤ (mE I e 4).toInt ∧ (mE I e 4).toInt ≤ 99999) := hE.2.2.2.elim (fun q => q.2) (fun q => by rw [q.1] at h75; exact absurd h75 (by decide))
        refine j_lload C (D 52 rfl) rfl ?_
        refine j_lload_n C (D 53 rfl) rfl ?_
        refine j_lmul C (D 54 rfl) ?_
        refine j_lload C (D 55 rfl) rfl ?_
        refine j_ldiv C (D 56 rfl) (ne0L (by omega)) ?_
        refine j_goto C 135 (D 57 rfl) (by decide) ?_
        refine j_lstore C (D 85 rfl) rfl ?_
        exact K2 hge _ _ (qL hd2 (by omega) (by omega) (by omega) (by omega) (by omega)) (dvn (Int.mul_nonneg (by omega) (by omega)) (by omega)) (by rw [curZ, if_pos h75]) _ _ _ _ hm1
    · refine j_iconst C (v := nI 0) (D 31 rfl) rfl ?_
      exact j_iret C P rfl (D 32 rfl) ⟨Nat.le_refl _, Nat.le_refl _⟩ (pv_i (by rw [pts, ptsZ, if_neg hm1, if_pos (by rw [lc_ge, l0', hd2] at h42; omega)]; decide))
  refine j_iload_n C (D 0 rfl) rfl ?_
  refine j_iconst C (v := (-1)) (D 1 rfl) rfl ?_
  refine j_icmp_ne C  7 (D 2 rfl) (by decide) (fun h2 => ?_) (fun h2 => ?_)
  · have hmr : 0 ≤ m.toInt ∧ m.toInt ≤ 99999 := hm.resolve_left h2
    refine j_aload_n C (D 5 rfl) rfl ?_
    refine j_iload_n C (D 6 rfl) rfl ?_
    refine j_iconst C (v := nI 0) (D 7 rfl) rfl ?_
    refine j_cVp C B k_X12_325 (rc_obj C (lit (kd := 12) (n := 48) rfl) rfl rfl) (d_ofEvent _ _ hL e (0) he (by omega)) rfl rfl rfl rfl ⟨Nat.le_refl _, Nat.le_refl _⟩ (D 8 rfl) ?_
    refine j_iconst C (v := nI 1) (D 9 rfl) rfl ?_
    refine j_icmp_ne C  29 (D 10 rfl) (by decide) (fun h14 => ?_) (fun h14 => ?_)
    · refine j_aload_n C (D 19 rfl) rfl ?_
      refine j_iload_n C (D 20 rfl) rfl ?_
      refine j_iconst C (v := nI 1) (D 21 rfl) rfl ?_
      refine j_cVp C B k_X12_325 (rc_obj C (lit (kd := 12) (n := 48) rfl) rfl rfl) (d_ofEvent _ _ hL e (1) he (by omega)) rfl rfl rfl rfl ⟨Nat.le_refl _, Nat.le_refl _⟩ (D 22 rfl) ?_
      refine j_iload_n C (D 23 rfl) rfl ?_
      refine j_isub C (D 24 rfl) ?_
      refine j_i2l C (D 25 rfl) ?_
      refine j_lstore_n C (D 26 rfl) rfl ?_
      exact K1 h2 _ (by rw [wayZ, if_neg (show ¬ mE I e 0 = 1 from h14), i_l, i_sub (by omega) (by omega)])
    · refine j_iload_n C (D 11 rfl) rfl ?_
      refine j_aload_n C (D 12 rfl) rfl ?_
      refine j_iload_n C (D 13 rfl) rfl ?_
      refine j_iconst C (v := nI 1) (D 14 rfl) rfl ?_
      refine j_cVp C B k_X12_325 (rc_obj C (lit (kd := 12) (n := 48) rfl) rfl rfl) (d_ofEvent _ _ hL e (1) he (by omega)) rfl rfl rfl rfl ⟨Nat.le_refl _, Nat.le_refl _⟩ (D 15 rfl) ?_
      refine j_isub C (D 16 rfl) ?_
      refine j_i2l C (D 17 rfl) ?_
      refine j_goto C 38 (D 18 rfl) (by decide) ?_
      refine j_lstore_n C (D 26 rfl) rfl ?_
      exact K1 h2 _ (by rw [wayZ, if_pos (show mE I e 0 = 1 from h14), i_l, i_sub (by omega) (by omega)])
  · refine j_iconst C (v := nI 0) (D 3 rfl) rfl ?_
    exact j_iret C P rfl (D 4 rfl) ⟨Nat.le_refl _, Nat.le_refl _⟩ (pv_i (by rw [pts, ptsZ, if_pos h2]; decide))
set_option maxRecDepth 20000 in
theorem d_markBy (l : Launch) (G : GT) {I : Nat → Nat → Int32} {L : Nat → Nat → Int64} {R : Nat → Nat → Option Nat} (hL : Lay R) (e : Nat) (he : e < 10) (m : Nat) : Mt l G mX12_markBy (1) 0 0 [.ref (ra G 172), .int (nI e), .int (nI m)] (wd I L R) (pV (.int (mkBy (mE I e) m)) (wd I L R)) := by
  refine mt_of (own := RX12) (by decide) rfl rfl (fun Z C P B => ?_)
  have D := @dc_of _ _ dX12_markBy
  refine j_aload_n C (D 0 rfl) rfl ?_
  refine j_iload_n C (D 1 rfl) rfl ?_
  refine j_iconst C (v := nI 0) (D 2 rfl) rfl ?_
  refine j_cVp C B k_X12_325 (rc_obj C (lit (kd := 12) (n := 48) rfl) rfl rfl) (d_ofEvent _ _ hL e (0) he (by omega)) rfl rfl rfl rfl ⟨Nat.le_refl _, Nat.le_refl _⟩ (D 3 rfl) ?_
  refine j_iconst C (v := nI 1) (D 4 rfl) rfl ?_
  refine j_icmp_ne C  14 (D 5 rfl) (by decide) (fun h7 => ?_) (fun h7 => ?_)
  · refine j_ldc C (v := 99999) (D 8 rfl) n_X12_177 ?_
    refine j_iload_n C (D 9 rfl) rfl ?_
    refine j_isub C (D 10 rfl) ?_
    exact j_iret C P rfl (D 11 rfl) ⟨Nat.le_refl _, Nat.le_refl _⟩ (pv_i (by rw [mkBy, if_neg (show ¬ mE I e 0 = 1 from h7)]))
  · refine j_iload_n C (D 6 rfl) rfl ?_
    refine j_goto C 18 (D 7 rfl) (by decide) ?_
    exact j_iret C P rfl (D 11 rfl) ⟨Nat.le_refl _, Nat.le_refl _⟩ (pv_i (by rw [mkBy, if_pos (show mE I e 0 = 1 from h7)]))
set_option maxRecDepth 20000 in
theorem d_topOf (l : Launch) (G : GT) {I : Nat → Nat → Int32} {L : Nat → Nat → Int64} {R : Nat → Nat → Option Nat} (hL : Lay R) (e : Nat) (he : e < 10) (hE : WE (mE I e)) : Mt l G mX12_topOf (3) 0 0 [.ref (ra G 172), .int (nI e)] (wd I L R) (pV (.int (topS (mE I e))) (wd I L R)) := by
  refine mt_of (own := RX12) (by decide) rfl rfl (fun Z C P B => ?_)
  have D := @dc_of _ _ dX12_topOf
  refine j_aload_n C (D 0 rfl) rfl ?_
  refine j_iload_n C (D 1 rfl) rfl ?_
  refine j_aload_n C (D 2 rfl) rfl ?_
  refine j_iload_n C (D 3 rfl) rfl ?_
  refine j_ldc C (v := 99999) (D 4 rfl) n_X12_177 ?_
  rw [show (99999 : Int32) = nI 99999 from rfl]
  refine j_cVp C B k_X12_353 (rc_obj C (lit (kd := 12) (n := 48) rfl) rfl rfl) (d_markBy _ _ hL e he 99999) rfl rfl rfl rfl ⟨Nat.le_refl _, Nat.le_refl _⟩ (D 5 rfl) ?_
  refine j_cVp C B k_X12_350 (rc_obj C (lit (kd := 12) (n := 48) rfl) rfl rfl) (d_pointsOf _ _ hL e he hE _ (Or.inr (mkBy_rng _ (by omega)))) rfl rfl rfl rfl ⟨Nat.le_refl _, Nat.le_refl _⟩ (D 6 rfl) ?_
  exact j_iret C P rfl (D 7 rfl) ⟨Nat.le_refl _, Nat.le_refl _⟩ (pv_i rfl)
set_option maxRecDepth 20000 in
theorem d_isBetter (l : Launch) (G : GT) {I : Nat → Nat → Int32} {L : Nat → Nat → Int64} {R : Nat → Nat → Option Nat} (hL : Lay R) (e : Nat) (he : e < 10) (m q : Int32) : Mt l G mX12_isBetter (1) 0 0 [.ref (ra G 172), .int (nI e), .int m, .int q] (wd I L R) (pV (.int (b2 (betB (mE I e) m q = true))) (wd I L R)) := by
  refine mt_of (own := RX12) (by decide) rfl rfl (fun Z C P B => ?_)
  have D := @dc_of _ _ dX12_isBetter
  refine j_aload_n C (D 0 rfl) rfl ?_
  refine j_iload_n C (D 1 rfl) rfl ?_
  refine j_iconst C (v := nI 0) (D 2 rfl) rfl ?_
  refine j_cVp C B k_X12_325 (rc_obj C (lit (kd := 12) (n := 48) rfl) rfl rfl) (d_ofEvent _ _ hL e (0) he (by omega)) rfl rfl rfl rfl ⟨Nat.le_refl _, Nat.le_refl _⟩ (D 3 rfl) ?_
  refine j_iconst C (v := nI 1) (D 4 rfl) rfl ?_
  refine j_icmp_ne C  23 (D 5 rfl) (by decide) (fun h7 => ?_) (fun h7 => ?_)
  · refine j_iload_n C (D 13 rfl) rfl ?_
    refine j_iload_n C (D 14 rfl) rfl ?_
    refine j_icmp_ge C  32 (D 15 rfl) (by decide) (fun h25 => ?_) (fun h25 => ?_)
    · refine j_iconst C (v := nI 0) (D 18 rfl) rfl ?_
      exact j_zret C P rfl (by first | exact isB_1 | exact isB_0) (D 19 rfl) ⟨Nat.le_refl _, Nat.le_refl _⟩ (pv_i (b2_f (by rw [betB, if_neg (show ¬ mE I e 0 = 1 from h7)]; simp only [decide_eq_true_eq]; rw [i_le] at h25; rw [i_lt]; omega)))
    · refine j_iconst C (v := nI 1) (D 16 rfl) rfl ?_
      refine j_goto C 33 (D 17 rfl) (by decide) ?_
      exact j_zret C P rfl (by first | exact isB_1 | exact isB_0) (D 19 rfl) ⟨Nat.le_refl _, Nat.le_refl _⟩ (pv_i (b2_t (by rw [betB, if_neg (show ¬ mE I e 0 = 1 from h7)]; simp only [decide_eq_true_eq]; rw [i_le] at h25; rw [i_lt]; omega)))
  · refine j_iload_n C (D 6 rfl) rfl ?_
    refine j_iload_n C (D 7 rfl) rfl ?_
    refine j_icmp_le C  19 (D 8 rfl) (by decide) (fun h12 => ?_) (fun h12 => ?_)
    · refine j_iconst C (v := nI 0) (D 11 rfl) rfl ?_
      refine j_goto C 33 (D 12 rfl) (by decide) ?_
      exact j_zret C P rfl (by first | exact isB_1 | exact isB_0) (D 19 rfl) ⟨Nat.le_refl _, Nat.le_refl _⟩ (pv_i (b2_f (by rw [betB, if_pos (show mE I e 0 = 1 from h7)]; simp only [decide_eq_true_eq]; rw [i_le] at h12; rw [i_lt]; omega)))
    · refine j_iconst C (v := nI 1) (D 9 rfl) rfl ?_
      refine j_goto C 33 (D 10 rfl) (by decide) ?_
      exact j_zret C P rfl (by first | exact isB_1 | exact isB_0) (D 19 rfl) ⟨Nat.le_refl _, Nat.le_refl _⟩ (pv_i (b2_t (by rw [betB, if_pos (show mE I e 0 = 1 from h7)]; simp only [decide_eq_true_eq]; rw [i_le] at h12; rw [i_lt]; omega)))
set_option maxRecDepth 20000 in
theorem d_worstOf (l : Launch) (G : GT) {I : Nat → Nat → Int32} {L : Nat → Nat → Int64} {R : Nat → Nat → Option Nat} (hL : Lay R) (e : Nat) (he : e < 10) (hE : WE (mE I e)) (q : Int32) : Mt l G mX12_worstOf (4) 0 0 [.ref (ra G 172), .int (nI e), .int q] (wd I L R) (pV (.int (wstS (mE I e) q)) (wd I L R)) := by
  refine mt_of (own := RX12) (by decide) rfl rfl (fun Z C P B => ?_)
  have D := @dc_of _ _ dX12_worstOf
  have K : ¬ topS (mE I e) < q → ∀ (lo hi : Nat) (x5 : Option Value), bs (fun m => decide (q ≤ pts (mE I e) (mkBy (mE I e) m))) 17 0 99999 = lo → J Z (0, 0) 62 [some (.ref (ra G 172)), some (.int (nI e)), some (.int q), some (.int (nI lo)), some (.int (nI hi)), x5] [] (wd I L R) := by
    intro hge lo hi x5 hlo
    refine j_aload_n C (D 37 rfl) rfl ?_
    refine j_iload_n C (D 38 rfl) rfl ?_
    refine j_iload_n C (D 39 rfl) rfl ?_
    refine j_cVp C B k_X12_353 (rc_obj C (lit (kd := 12) (n := 48) rfl) rfl rfl) (d_markBy _ _ hL e he lo) rfl rfl rfl rfl ⟨Nat.le_refl _, Nat.le_refl _⟩ (D 40 rfl) ?_
    exact j_iret C P rfl (D 41 rfl) ⟨Nat.le_refl _, Nat.le_refl _⟩ (pv_i (by rw [wstS, if_neg hge, hlo]))
  have Lp : ¬ topS (mE I e) < q → ∀ (m lo hi : Nat) (x5 : Option Value), hi - lo < 2 ^ m → lo ≤ hi → hi ≤ 99999 → bs (fun m => decide (q ≤ pts (mE I e) (mkBy (mE I e) m))) 17 0 99999 = bs (fun m => decide (q ≤ pts (mE I e) (mkBy (mE I e) m))) m lo hi → J Z (0, 0) 17 [some (.ref (ra G 172)), some (.int (nI e)), some (.int q), some (.int (nI lo)), some (.int (nI hi)), x5] [] (wd I L R) := by
    intro hge
    have K := K hge
    intro m
    induction m with
    | zero =>
      intro lo hi x5 hr hlh h9 hbs
      rw [Nat.pow_zero] at hr
      refine j_iload_n C (D 11 rfl) rfl ?_
      refine j_iload C (D 12 rfl) rfl ?_
      refine j_icmp_ge C  62 (D 13 rfl) (by decide) (fun h20 => ?_) (fun h20 => absurd h20 (fun z => z (nI_le (by omega) (by omega))))
      exact K lo hi x5 (by rw [hbs, bs_done _ (by omega)])
    | succ m ih =>
      intro lo hi x5 hr hlh h9 hbs
      rw [Nat.pow_succ] at hr
      refine j_iload_n C (D 11 rfl) rfl ?_
      refine j_iload C (D 12 rfl) rfl ?_
      refine j_icmp_ge C  62 (D 13 rfl) (by decide) (fun h20 => ?_) (fun h20 => ?_)
      · exact K lo hi x5 (by rw [hbs, bs_done _ (by rw [i_le, nI_int (by omega), nI_int (by omega)] at h20; omega)])
      · have hlt : lo < hi := by rw [i_le, nI_int (by omega), nI_int (by omega)] at h20; omega
        refine j_iload_n C (D 14 rfl) rfl ?_
        refine j_iload C (D 15 rfl) rfl ?_
        refine j_iadd C (D 16 rfl) ?_
        rw [nI_add]
        refine j_iconst C (v := nI 2) (D 17 rfl) rfl ?_
        refine j_idiv C (D 18 rfl) (by decide) ?_
        rw [pk_div (by omega) (by decide) (by decide)]
        refine j_istore C (D 19 rfl) rfl ?_
        refine j_aload_n C (D 20 rfl) rfl ?_
        refine j_iload_n C (D 21 rfl) rfl ?_
        refine j_aload_n C (D 22 rfl) rfl ?_
        refine j_iload_n C (D 23 rfl) rfl ?_
        refine j_iload C (D 24 rfl) rfl ?_
        refine j_cVp C B k_X12_353 (rc_obj C (lit (kd := 12) (n := 48) rfl) rfl rfl) (d_markBy _ _ hL e he ((lo + hi) / 2)) rfl rfl rfl rfl ⟨Nat.le_refl _, Nat.le_refl _⟩ (D 25 rfl) ?_
        refine j_cVp C B k_X12_350 (rc_obj C (lit (kd := 12) (n := 48) rfl) rfl rfl) (d_pointsOf _ _ hL e he hE _ (Or.inr (mkBy_rng _ (by omega)))) rfl rfl rfl rfl ⟨Nat.le_refl _, Nat.le_refl _⟩ (D 26 rfl) ?_
        refine j_iload_n C (D 27 rfl) rfl ?_
        refine j_icmp_lt C  54 (D 28 rfl) (by decide) (fun h44 => ?_) (fun h44 => ?_)
        · refine j_iload C (D 32 rfl) rfl ?_
          refine j_iconst C (v := nI 1) (D 33 rfl) rfl ?_
          refine j_iadd C (D 34 rfl) ?_
          rw [nI_add]
          refine j_istore_n C (D 35 rfl) rfl ?_
          refine j_goto C 17 (D 36 rfl) (by decide) ?_
          exact ih ((lo + hi) / 2 + 1) hi _ (by omega) (by omega) h9 (by rw [hbs, bs, if_pos hlt, if_neg (by simp only [decide_eq_true_eq]; rw [i_lt] at h44; rw [i_le]; omega)])
        · refine j_iload C (D 29 rfl) rfl ?_
          refine j_istore C (D 30 rfl) rfl ?_
          refine j_goto C 59 (D 31 rfl) (by decide) ?_
          refine j_goto C 17 (D 36 rfl) (by decide) ?_
          exact ih lo ((lo + hi) / 2) _ (by omega) (by omega) (by omega) (by rw [hbs, bs, if_pos hlt, if_pos (by simp only [decide_eq_true_eq]; rw [i_lt] at h44; rw [i_le]; omega)])
  refine j_aload_n C (D 0 rfl) rfl ?_
  refine j_iload_n C (D 1 rfl) rfl ?_
  refine j_cVp C B k_X12_356 (rc_obj C (lit (kd := 12) (n := 48) rfl) rfl rfl) (d_topOf _ _ hL e he hE) rfl rfl rfl rfl ⟨Nat.le_refl _, Nat.le_refl _⟩ (D 2 rfl) ?_
  refine j_iload_n C (D 3 rfl) rfl ?_
  refine j_icmp_ge C  11 (D 4 rfl) (by decide) (fun h6 => ?_) (fun h6 => ?_)
  · refine j_iconst C (v := nI 0) (D 7 rfl) rfl ?_
    refine j_istore_n C (D 8 rfl) rfl ?_
    refine j_ldc C (v := 99999) (D 9 rfl) n_X12_177 ?_
    refine j_istore C (D 10 rfl) rfl ?_
    exact Lp (by rw [i_le] at h6; rw [i_lt]; omega) 17 0 99999 _ (by decide) (by decide) (by decide) rfl
  · refine j_iconst C (v := (-1)) (D 5 rfl) rfl ?_
    exact j_iret C P rfl (D 6 rfl) ⟨Nat.le_refl _, Nat.le_refl _⟩ (pv_i (by rw [wstS, if_pos (by rw [i_le] at h6; rw [i_lt]; omega)]))

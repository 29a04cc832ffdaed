/-! SHARES: W r h what row r is worth with h hours; the best of the rows from r on (m more behind it) -/
def mx0 (f : Nat → Nat) : Nat → Nat
  | 0 => 0
  | n + 1 => max (mx0 f n) (f n)
def bsR (W : Nat → Nat → Nat) : Nat → Nat → Nat → Nat
  | 0, r, h => W r h
  | m + 1, r, h => mx0 (fun k => W r k + bsR W m (r + 1) (h - k)) (h + 1)
theorem mx0_le {f : Nat → Nat} {M : Nat} : ∀ {n : Nat}, (∀ i, i < n → f i ≤ M) → mx0 f n ≤ M
  | 0, _ => Nat.zero_le _
  | n + 1, h => by
    have h1 := mx0_le (f := f) (M := M) (n := n) (fun i hi => h i (by omega))
    have h2 := h n (by omega)
    rw [mx0]; omega
theorem mx0_ge {f : Nat → Nat} : ∀ {n i : Nat}, i < n → f i ≤ mx0 f n
  | n + 1, i, h => by
    rw [mx0]
    by_cases e : i = n
    · subst e; omega
    · have := mx0_ge (f := f) (n := n) (i := i) (by omega); omega
theorem mx0_at {f : Nat → Nat} : ∀ {n : Nat}, 0 < n → ∃ i, i < n ∧ f i = mx0 f n
  | 1, _ => ⟨0, by omega, by simp [mx0]⟩
  | n + 2, _ => by
    obtain ⟨i, h1, h2⟩ := mx0_at (f := f) (n := n + 1) (by omega)
    rw [mx0]
    by_cases c : mx0 f (n + 1) ≤ f (n + 1)
    · exact ⟨n + 1, by omega, by omega⟩
    · exact ⟨i, by omega, by omega⟩
theorem mx0_congr {f g : Nat → Nat} : ∀ {n : Nat}, (∀ i, i < n → f i = g i) → mx0 f n = mx0 g n
  | 0, _ => rfl
  | n + 1, h => by rw [mx0, mx0, mx0_congr (fun i hi => h i (by omega)), h n (by omega)]
theorem bsR_le {W : Nat → Nat → Nat} {M : Nat} : ∀ {m r h : Nat}, (∀ i k, i ≤ r + m → k ≤ h → W i k ≤ M) → bsR W m r h ≤ (m + 1) * M
  | 0, r, h, hW => by rw [bsR]; have := hW r h (by omega) (by omega); omega
  | m + 1, r, h, hW => by
    rw [bsR]
    have e : (m + 1 + 1) * M = (m + 1) * M + M := Nat.succ_mul _ _
    refine mx0_le (fun k hk => ?_)
    have h1 := hW r k (by omega) (by omega)
    have h2 := bsR_le (W := W) (M := M) (m := m) (r := r + 1) (h := h - k) (fun i j hi hj => hW i j (by omega) (by omega))
    omega
theorem mx_i {a b : Nat} (ha : a < 2147483648) (hb : b < 2147483648) : (if nI a < nI b then nI b else nI a) = nI (max a b) := by
  by_cases c : a < b
  · rw [if_pos ((nlt ha hb).mpr c), show max a b = b by omega]
  · rw [if_neg (fun z => c ((nlt ha hb).mp z)), show max a b = a by omega]
def fstN (P : Nat → Bool) : Nat → Nat → Nat
  | 0, i => i
  | m + 1, i => if P i then i else fstN P m (i + 1)
theorem fstN_le (P : Nat → Bool) : ∀ m i, i ≤ fstN P m i ∧ fstN P m i ≤ i + m
  | 0, i => ⟨Nat.le_refl _, Nat.le_refl _⟩
  | m + 1, i => by
    rw [fstN]
    by_cases c : P i = true
    · rw [if_pos c]; omega
    · rw [if_neg c]; have := fstN_le P m (i + 1); omega
/-- the fewest hours of row r out of n -/
def fewS (W : Nat → Nat → Nat) (N r n : Nat) : Nat := if N ≤ r + 1 then n else fstN (fun h => decide (W r h + bsR W (N - 2 - r) (r + 1) (n - h) = bsR W (N - 1 - r) r n)) n 0
theorem fewS_le (W : Nat → Nat → Nat) (N r n : Nat) : fewS W N r n ≤ n := by
  unfold fewS
  by_cases c : N ≤ r + 1
  · rw [if_pos c]; exact Nat.le_refl _
  · rw [if_neg c]; have := fstN_le (fun h => decide (W r h + bsR W (N - 2 - r) (r + 1) (n - h) = bsR W (N - 1 - r) r n)) n 0; omega
def lftS (W : Nat → Nat → Nat) (N n : Nat) : Nat → Nat
  | 0 => n
  | r + 1 => lftS W N n r - fewS W N r (lftS W N n r)
theorem lftS_le (W : Nat → Nat → Nat) (N n : Nat) : ∀ r, lftS W N n r ≤ n
  | 0 => Nat.le_refl _
  | r + 1 => by have := lftS_le W N n r; rw [lftS]; omega
def shrS (W : Nat → Nat → Nat) (N r n : Nat) : Nat := fewS W N r (lftS W N n r)
def mstS (W : Nat → Nat → Nat) (N n : Nat) : Nat := if N = 0 then 0 else bsR W (N - 1) 0 n
/-- the rows, and the bests of the rows from r on -/
def HR (I : Nat → Nat → Int32) (q : Nat) (W : Nat → Nat → Nat) (N n : Nat) : Prop := ∀ r h, r < N → h ≤ n → I (q + 2 + r) h = nI (W r h)
def HB (I : Nat → Nat → Int32) (q : Nat) (W : Nat → Nat → Nat) (N n r : Nat) : Prop := ∀ i h, r ≤ i → i < N → h ≤ n → I (q + 13 + i) h = nI (bsR W (N - 1 - i) i h)
def HM (W : Nat → Nat → Nat) (N n : Nat) : Prop := ∀ r h, r < N → h ≤ n → W r h ≤ 20000
def FrH (q : Nat) (I I' : Nat → Nat → Int32) : Prop := ∀ b j, ¬ (b = q ∧ j = 2) → ¬ (q + 13 ≤ b ∧ b ≤ q + 22) → I' b j = I b j
theorem FrH.tr {q : Nat} {I I' I'' : Nat → Nat → Int32} (h : FrH q I I') (h' : FrH q I' I'') : FrH q I I'' := fun b j h1 h2 => (h' b j h1 h2).trans (h b j h1 h2)
theorem FrH.S {q : Nat} {I I' : Nat → Nat → Int32} (hq : isH q) (h : FrH q I I') : FrS I I' := fun b j hb => by
  unfold scr at hb
  rcases hq with rfl | rfl <;> exact h b j (by omega) (by omega)
theorem pr_int2 {b : Nat} (h : b ≤ 1000) : (pr b).toInt = (b : Int) - 1 := by unfold pr; rw [i_sub (by rw [nI_int (by omega), nI_int (by decide)]; omega) (by rw [nI_int (by omega), nI_int (by decide)]; omega), nI_int (by omega), nI_int (by decide)]; rfl
theorem pr_d (j : Nat) : nI j + Int32.ofInt (-1) = pr j := by unfold pr; rw [Int32.sub_eq_add_neg]; rfl
theorem bsR_rng {W : Nat → Nat → Nat} {N n m r h : Nat} (hM : HM W N n) (hN : N ≤ 10) (hr : r + m < N) (hh : h ≤ n) : bsR W m r h ≤ 200000 := by
  have h1 := bsR_le (W := W) (M := 20000) (m := m) (r := r) (h := h) (fun i k hi hk => hM i k (by omega) (by omega))
  have h2 : (m + 1) * 20000 ≤ 10 * 20000 := Nat.mul_le_mul_right _ (by omega)
  omega
set_option maxRecDepth 20000 in
theorem c_bestFrom (l : Launch) (G : GT) {q : Nat} (hq : isH q) {I : Nat → Nat → Int32} {L : Nat → Nat → Int64} {R : Nat → Nat → Option Nat} (hL : Lay R) (W : Nat → Nat → Nat) (N n : Nat) (hN : N ≤ 10) (hn : n ≤ 60) (hM : HM W N n) (hR : HR I q W N n) (r n0 : Nat) (hB : HB I q W N n (r + 1)) (hr : r + 1 < N) (hn0 : n0 ≤ n) : Mt l G mX6_bestFrom (1) 0 0 [.ref (ra G q), .int (nI r), .int (nI n0)] (wd I L R) (pV (.int (nI (bsR W (N - 1 - r) r n0))) (wd I L R)) := by
  refine mt_of (own := RX6) (by decide) rfl rfl (fun Z C P B => ?_)
  have D := @dc_of _ _ dX6_bestFrom
  have hr10 : r < 10 := by omega
  have hr11 : r + 1 < 10 := by omega
  have hfb : ∀ k, k ≤ n0 → W r k + bsR W (N - 2 - r) (r + 1) (n0 - k) ≤ 220000 := fun k hk => by
    have h1 := hM r k (by omega) (by omega)
    have h2 := bsR_rng (m := N - 2 - r) (r := r + 1) (h := n0 - k) hM hN (by omega) (by omega)
    omega
  have Lp : ∀ (m h : Nat), h + m = n0 + 1 → J Z (0, 0) 5 [some (.ref (ra G q)), some (.int (nI r)), some (.int (nI n0)), some (.int (nI (mx0 (fun k => W r k + bsR W (N - 2 - r) (r + 1) (n0 - k)) h))), some (.int (nI h))] [] (wd I L R) := by
    intro m
    induction m with
    | zero =>
      intro h hh
      refine j_iload C (D 4 rfl) rfl ?_
      refine j_iload_n C (D 5 rfl) rfl ?_
      refine j_icmp_gt C  45 (D 6 rfl) (by decide) (fun h8 => ?_) (fun h8 => absurd h8 (fun z => z ((nlt (by omega) (by omega)).mpr (by omega))))
      refine j_iload_n C (D 29 rfl) rfl ?_
      exact j_iret C P rfl (D 30 rfl) ⟨Nat.le_refl _, Nat.le_refl _⟩ (pv_i (by rw [show N - 1 - r = (N - 2 - r) + 1 by omega, bsR, show n0 + 1 = h by omega]))
    | succ m ih =>
      intro h hh
      have hb1 := hfb h (by omega)
      have hb2 : mx0 (fun k => W r k + bsR W (N - 2 - r) (r + 1) (n0 - k)) h ≤ 220000 := mx0_le (fun i hi => hfb i (by omega))
      refine j_iload C (D 4 rfl) rfl ?_
      refine j_iload_n C (D 5 rfl) rfl ?_
      refine j_icmp_gt C  45 (D 6 rfl) (by decide) (fun h8 => absurd h8 (fun z => by rw [nlt (by omega) (by omega)] at z; omega)) (fun h8 => ?_)
      refine j_iload_n C (D 7 rfl) rfl ?_
      refine j_aload_n C (D 8 rfl) rfl ?_
      refine j_getr C f_X6_11 (sH0 hq) rfl rfl (hL _ _ _ (rH0 hq)) (D 9 rfl) ?_
      refine j_iload_n C (D 10 rfl) rfl ?_
      refine j_aald C (kd := 3) (sH1 hq) rfl (ix_n (by omega) (by decide)) (hL _ _ _ (rHrA hq hr10)) (D 11 rfl) ?_
      refine j_iload C (D 12 rfl) rfl ?_
      refine j_iald C (sHrA hq hr10) (ix_n (by omega) (by decide)) (D 13 rfl) ?_
      rw [hR r h (by omega) (by omega)]
      refine j_aload_n C (D 14 rfl) rfl ?_
      refine j_getr C f_X6_16 (sH0 hq) rfl rfl (hL _ _ _ (rH1 hq)) (D 15 rfl) ?_
      refine j_iload_n C (D 16 rfl) rfl ?_
      refine j_iconst C (v := nI 1) (D 17 rfl) rfl ?_
      refine j_iadd C (D 18 rfl) ?_
      rw [nI_add]
      refine j_aald C (kd := 3) (sH12 hq) rfl (ix_n (by omega) (by decide)) (hL _ _ _ (rHrB hq hr11)) (D 19 rfl) ?_
      refine j_iload_n C (D 20 rfl) rfl ?_
      refine j_iload C (D 21 rfl) rfl ?_
      refine j_isub C (D 22 rfl) ?_
      rw [pk_sub (by omega)]
      refine j_iald C (sHrB hq hr11) (ix_n (by omega) (by decide)) (D 23 rfl) ?_
      rw [hB (r + 1) (n0 - h) (by omega) (by omega) (by omega), show N - 1 - (r + 1) = N - 2 - r by omega]
      refine j_iadd C (D 24 rfl) ?_
      rw [nI_add]
      refine j_mmax C B k_X6_27 rfl rfl ⟨Nat.le_refl _, Nat.le_refl _⟩ (D 25 rfl) ?_
      rw [mx_i (by omega) (by omega), show max (mx0 (fun k => W r k + bsR W (N - 2 - r) (r + 1) (n0 - k)) h) (W r h + bsR W (N - 2 - r) (r + 1) (n0 - h)) = mx0 (fun k => W r k + bsR W (N - 2 - r) (r + 1) (n0 - k)) (h + 1) from rfl]
      refine j_istore_n C (D 26 rfl) rfl ?_
      first | refine j_iinc1 C (D 27 rfl) rfl rfl ?_ | refine j_iinc C (D 27 rfl) rfl rfl rfl ?_
      refine j_goto C 5 (D 28 rfl) (by decide) ?_
      exact ih (h + 1) (by omega)
  refine j_iconst C (v := nI 0) (D 0 rfl) rfl ?_
  refine j_istore_n C (D 1 rfl) rfl ?_
  refine j_iconst C (v := nI 0) (D 2 rfl) rfl ?_
  refine j_istore C (D 3 rfl) rfl ?_
  exact Lp (n0 + 1) 0 (by omega)
set_option maxRecDepth 20000 in
theorem c_settle (l : Launch) (G : GT) {q : Nat} (hq : isH q) {I : Nat → Nat → Int32} {L : Nat → Nat → Int64} {R : Nat → Nat → Option Nat} (hL : Lay R) (W : Nat → Nat → Nat) (N n : Nat) (hN : N ≤ 10) (hn : n ≤ 60) (hM : HM W N n) (hR : HR I q W N n) : Mt l G mX6_settle (2) 0 0 [.ref (ra G q), .int (nI N), .int (nI n)] (wd I L R) (fun r w' => r = none ∧ ∃ I', w' = wd I' L R ∧ FrH q I I' ∧ I' q 2 = nI N ∧ HB I' q W N n 0) := by
  refine mt_of (own := RX6) (by decide) rfl rfl (fun Z C P B => ?_)
  have D := @dc_of _ _ dX6_settle
  have Lp : ∀ (k : Nat) (x4 : Option Value) (I1 : Nat → Nat → Int32), k ≤ N → FrH q I I1 → I1 q 2 = nI N → HB I1 q W N n k → J Z (0, 0) 12 [some (.ref (ra G q)), some (.int (nI N)), some (.int (nI n)), some (.int (pr k)), x4] [] (wd I1 L R) := by
    intro k
    induction k with
    | zero =>
      intro x4 I1 hk hF h2 hB
      refine j_iload_n C (D 8 rfl) rfl ?_
      refine j_if_lt C  75 (D 9 rfl) (by decide) (fun h13 => ?_) (fun h13 => absurd h13 (fun z => z (i_lt.mpr (by rw [pr_int2 (by omega), i0]; omega))))
      exact j_vret C P rfl (D 42 rfl) ⟨Nat.le_refl _, Nat.le_refl _⟩ ⟨rfl, I1, rfl, hF, h2, fun i h _ => hB i h (by omega)⟩
    | succ r ih' =>
      intro x4 I1 hk hF h2 hB
      have ih : ∀ (j : Nat) (x4 : Option Value) (I1 : Nat → Nat → Int32), j = r → FrH q I I1 → I1 q 2 = nI N → HB I1 q W N n j → J Z (0, 0) 12 [some (.ref (ra G q)), some (.int (nI N)), some (.int (nI n)), some (.int (pr j)), x4] [] (wd I1 L R) := by
        intro j x4 I1 hj hF h2 hB
        rw [hj] at hB ⊢
        exact ih' x4 I1 (by omega) hF h2 hB
      have hr10 : r < 10 := by omega
      have Lp2 : ∀ (m h : Nat) (I2 : Nat → Nat → Int32), h + m = n + 1 → FrH q I I2 → I2 q 2 = nI N → HB I2 q W N n (r + 1) → (∀ h9, h9 < h → I2 (q + 13 + r) h9 = nI (bsR W (N - 1 - r) r h9)) → J Z (0, 0) 19 [some (.ref (ra G q)), some (.int (nI N)), some (.int (nI n)), some (.int (nI r)), some (.int (nI h))] [] (wd I2 L R) := by
        intro m
        induction m with
        | zero =>
          intro h I2 hh hF h2 hB hB2
          refine j_iload C (D 12 rfl) rfl ?_
          refine j_iload_n C (D 13 rfl) rfl ?_
          refine j_icmp_gt C  69 (D 14 rfl) (by decide) (fun h22 => ?_) (fun h22 => absurd h22 (fun z => z ((nlt (by omega) (by omega)).mpr (by omega))))
          refine j_iinc C (D 40 rfl) rfl rfl rfl ?_
          rw [pr_d]
          refine j_goto C 12 (D 41 rfl) (by decide) ?_
          exact ih r _ I2 (by omega) hF h2 (fun i h q1 q2 q3 => by
            by_cases e : i = r
            · rw [e]; exact hB2 h (by omega)
            · exact hB i h (by omega) q2 q3)
        | succ m ih2 =>
          intro h I2 hh hF h2 hB hB2
          have hR1 : HR I2 q W N n := fun i h9 q1 q2 => by rw [hF _ _ (by omega) (by omega)]; exact hR i h9 q1 q2
          refine j_iload C (D 12 rfl) rfl ?_
          refine j_iload_n C (D 13 rfl) rfl ?_
          refine j_icmp_gt C  69 (D 14 rfl) (by decide) (fun h22 => absurd h22 (fun z => by rw [nlt (by omega) (by omega)] at z; omega)) (fun h22 => ?_)
          refine j_aload_n C (D 15 rfl) rfl ?_
          refine j_getr C f_X6_16 (sH0 hq) rfl rfl (hL _ _ _ (rH1 hq)) (D 16 rfl) ?_
          refine j_iload_n C (D 17 rfl) rfl ?_
          refine j_aald C (kd := 3) (sH12 hq) rfl (ix_n (by omega) (by decide)) (hL _ _ _ (rHrB hq hr10)) (D 18 rfl) ?_
          refine j_iload C (D 19 rfl) rfl ?_
          refine j_iload_n C (D 20 rfl) rfl ?_
          refine j_aload_n C (D 21 rfl) rfl ?_
          refine j_geti C f_X6_19 (sH0 hq) rfl rfl (D 22 rfl) ?_
          rw [h2]
          refine j_iconst C (v := nI 1) (D 23 rfl) rfl ?_
          refine j_isub C (D 24 rfl) ?_
          refine j_icmp_ne C  55 (D 25 rfl) (by decide) (fun h40 => ?_) (fun h40 => ?_)
          · have hrN : r + 1 < N := by have z : ¬ (nI r).toInt = (pr N).toInt := fun z => h40 (i_eq.mpr z); rw [nI_int (by omega), pr_int2 (by omega)] at z; omega
            refine j_aload_n C (D 33 rfl) rfl ?_
            refine j_iload_n C (D 34 rfl) rfl ?_
            refine j_iload C (D 35 rfl) rfl ?_
            refine j_cVp C B k_X6_23 (rc_obj C (sH0 hq) rfl rfl) (c_bestFrom _ _ hq hL W N n hN hn hM hR1 r h (fun i h9 q1 q2 q3 => hB i h9 (by omega) q2 q3) hrN (by omega)) rfl rfl rfl rfl ⟨Nat.le_refl _, Nat.le_refl _⟩ (D 36 rfl) ?_
            refine j_iast C (sHrB hq hr10) (ix_n (by omega) (by decide)) (D 37 rfl) ?_
            first | refine j_iinc1 C (D 38 rfl) rfl rfl ?_ | refine j_iinc C (D 38 rfl) rfl rfl rfl ?_
            refine j_goto C 19 (D 39 rfl) (by decide) ?_
            exact ih2 (h + 1) _ (by omega) (fun b j q1 q2 => by rw [up2_i (by omega)]; exact hF b j q1 q2) (by rw [up2_i (by omega)]; exact h2) (fun i h9 q1 q2 q3 => by rw [up2_i (by omega)]; exact hB i h9 q1 q2 q3) (fun h9 hh9 => by
              by_cases e9 : h9 = h
              · rw [e9, up2_same]
              · rw [up2_i (by omega)]; exact hB2 h9 (by omega))
          · refine j_aload_n C (D 26 rfl) rfl ?_
            have hRr : N - 1 - r = 0 := by have z := i_eq.mp h40; rw [nI_int (by omega)] at z; have z2 := pr_int2 (b := N) (by omega); unfold pr at z2; omega
            refine j_getr C f_X6_11 (sH0 hq) rfl rfl (hL _ _ _ (rH0 hq)) (D 27 rfl) ?_
            refine j_iload_n C (D 28 rfl) rfl ?_
            refine j_aald C (kd := 3) (sH1 hq) rfl (ix_n (by omega) (by decide)) (hL _ _ _ (rHrA hq hr10)) (D 29 rfl) ?_
            refine j_iload C (D 30 rfl) rfl ?_
            refine j_iald C (sHrA hq hr10) (ix_n (by omega) (by decide)) (D 31 rfl) ?_
            rw [hR1 r h (by omega) (by omega)]
            refine j_goto C 62 (D 32 rfl) (by decide) ?_
            refine j_iast C (sHrB hq hr10) (ix_n (by omega) (by decide)) (D 37 rfl) ?_
            first | refine j_iinc1 C (D 38 rfl) rfl rfl ?_ | refine j_iinc C (D 38 rfl) rfl rfl rfl ?_
            refine j_goto C 19 (D 39 rfl) (by decide) ?_
            exact ih2 (h + 1) _ (by omega) (fun b j q1 q2 => by rw [up2_i (by omega)]; exact hF b j q1 q2) (by rw [up2_i (by omega)]; exact h2) (fun i h9 q1 q2 q3 => by rw [up2_i (by omega)]; exact hB i h9 q1 q2 q3) (fun h9 hh9 => by
              by_cases e9 : h9 = h
              · rw [e9, up2_same, hRr]; rfl
              · rw [up2_i (by omega)]; exact hB2 h9 (by omega))
      rw [pr_s]
      refine j_iload_n C (D 8 rfl) rfl ?_
      refine j_if_lt C  75 (D 9 rfl) (by decide) (fun h13 => absurd h13 (fun z => by rw [i_lt, nI_int (by omega), i0] at z; omega)) (fun h13 => ?_)
      refine j_iconst C (v := nI 0) (D 10 rfl) rfl ?_
      refine j_istore C (D 11 rfl) rfl ?_
      exact Lp2 (n + 1) 0 I1 (by omega) hF h2 hB (fun h hh => absurd hh (by omega))
  refine j_aload_n C (D 0 rfl) rfl ?_
  refine j_iload_n C (D 1 rfl) rfl ?_
  refine j_puti C f_X6_19 (sH0 hq) rfl rfl (D 2 rfl) ?_
  refine j_aload_n C (D 3 rfl) rfl ?_
  refine j_geti C f_X6_19 (sH0 hq) rfl rfl (D 4 rfl) ?_
  rw [up2_same]
  refine j_iconst C (v := nI 1) (D 5 rfl) rfl ?_
  refine j_isub C (D 6 rfl) ?_
  refine j_istore_n C (D 7 rfl) rfl ?_
  exact Lp N _ _ (Nat.le_refl _) (fun b j q1 q2 => by rw [up2_i (by omega)]) (by rw [up2_same]) (fun i h q1 q2 => by omega)
set_option maxRecDepth 20000 in
theorem c_mostFor (l : Launch) (G : GT) {q : Nat} (hq : isH q) {I : Nat → Nat → Int32} {L : Nat → Nat → Int64} {R : Nat → Nat → Option Nat} (hL : Lay R) (W : Nat → Nat → Nat) (N n : Nat) (hN : N ≤ 10) (hn : n ≤ 60) (hM : HM W N n) (hR : HR I q W N n) (h2 : I q 2 = nI N) (hB : HB I q W N n 0) (h : Nat) (hh : h ≤ n) : Mt l G mX6_mostFor (0) 0 0 [.ref (ra G q), .int (nI h)] (wd I L R) (pV (.int (nI (mstS W N h))) (wd I L R)) := by
  refine mt_of (own := RX6) (by decide) rfl rfl (fun Z C P B => ?_)
  have D := @dc_of _ _ dX6_mostFor
  refine j_aload_n C (D 0 rfl) rfl ?_
  refine j_geti C f_X6_19 (sH0 hq) rfl rfl (D 1 rfl) ?_
  rw [h2]
  refine j_if_ne C  11 (D 2 rfl) (by decide) (fun h4 => ?_) (fun h4 => ?_)
  · have hN0 : 0 < N := Nat.pos_of_ne_zero (fun z => h4 (by rw [z]; rfl))
    refine j_aload_n C (D 5 rfl) rfl ?_
    refine j_getr C f_X6_16 (sH0 hq) rfl rfl (hL _ _ _ (rH1 hq)) (D 6 rfl) ?_
    refine j_iconst C (v := nI 0) (D 7 rfl) rfl ?_
    refine j_aald C (kd := 3) (sH12 hq) rfl (ix_n (by omega) (by decide)) (hL _ _ _ (rHrB hq (i := 0) (by omega))) (D 8 rfl) ?_
    refine j_iload_n C (D 9 rfl) rfl ?_
    refine j_iald C (sHrB hq (i := 0) (by omega)) (ix_n (by omega) (by decide)) (D 10 rfl) ?_
    rw [hB 0 h (by omega) hN0 hh]
    exact j_iret C P rfl (D 11 rfl) ⟨Nat.le_refl _, Nat.le_refl _⟩ (pv_i (by rw [mstS, if_neg (by omega), Nat.sub_zero]))
  · refine j_iconst C (v := nI 0) (D 3 rfl) rfl ?_
    refine j_goto C 19 (D 4 rfl) (by decide) ?_
    exact j_iret C P rfl (D 11 rfl) ⟨Nat.le_refl _, Nat.le_refl _⟩ (pv_i (by rw [mstS, if_pos (nI_inj (by omega) (by decide) h4)]))
set_option maxRecDepth 20000 in
theorem c_fewestFor (l : Launch) (G : GT) {q : Nat} (hq : isH q) {I : Nat → Nat → Int32} {L : Nat → Nat → Int64} {R : Nat → Nat → Option Nat} (hL : Lay R) (W : Nat → Nat → Nat) (N n : Nat) (hN : N ≤ 10) (hn : n ≤ 60) (hM : HM W N n) (hR : HR I q W N n) (h2 : I q 2 = nI N) (hB : HB I q W N n 0) (r n0 : Nat) (hr : r < N) (hn0 : n0 ≤ n) : Mt l G mX6_fewestFor (0) 0 0 [.ref (ra G q), .int (nI r), .int (nI n0)] (wd I L R) (pV (.int (nI (fewS W N r n0))) (wd I L R)) := by
  refine mt_of (own := RX6) (by decide) rfl rfl (fun Z C P B => ?_)
  have D := @dc_of _ _ dX6_fewestFor
  have hr10 : r < 10 := by omega
  have Lp : r + 1 < N → ∀ (m h : Nat), h + m = n0 + 1 → (h ≤ n0 → fstN (fun h => decide (W r h + bsR W (N - 2 - r) (r + 1) (n0 - h) = bsR W (N - 1 - r) r n0)) n0 0 = fstN (fun h => decide (W r h + bsR W (N - 2 - r) (r + 1) (n0 - h) = bsR W (N - 1 - r) r n0)) (n0 - h) h) ∧ (h = n0 + 1 → fstN (fun h => decide (W r h + bsR W (N - 2 - r) (r + 1) (n0 - h) = bsR W (N - 1 - r) r n0)) n0 0 = n0) → J Z (0, 0) 14 [some (.ref (ra G q)), some (.int (nI r)), some (.int (nI n0)), some (.int (nI h))] [] (wd I L R) := by
    intro hrN
    have hr11 : r + 1 < 10 := by omega
    intro m
    induction m with
    | zero =>
      intro h hh hf
      have hf := hf.2 (by omega)
      refine j_iload_n C (D 10 rfl) rfl ?_
      refine j_iload_n C (D 11 rfl) rfl ?_
      refine j_icmp_gt C  59 (D 12 rfl) (by decide) (fun h16 => ?_) (fun h16 => absurd h16 (fun z => z ((nlt (by omega) (by omega)).mpr (by omega))))
      refine j_iload_n C (D 41 rfl) rfl ?_
      exact j_iret C P rfl (D 42 rfl) ⟨Nat.le_refl _, Nat.le_refl _⟩ (pv_i (by rw [fewS, if_neg (by omega), hf]))
    | succ m ih =>
      intro h hh hf
      have b1 := hM r h (by omega) (by omega)
      have b2' := bsR_rng (m := N - 2 - r) (r := r + 1) (h := n0 - h) hM hN (by omega) (by omega)
      have b3 := bsR_rng (m := N - 1 - r) (r := r) (h := n0) hM hN (by omega) (by omega)
      have hat : W r h + bsR W (N - 2 - r) (r + 1) (n0 - h) = bsR W (N - 1 - r) r n0 → nI h = nI (fstN (fun h => decide (W r h + bsR W (N - 2 - r) (r + 1) (n0 - h) = bsR W (N - 1 - r) r n0)) n0 0) := fun z => by
        rw [hf.1 (by omega)]
        by_cases e : h = n0
        · rw [e, Nat.sub_self]; rfl
        · rw [show n0 - h = (n0 - h - 1) + 1 by omega, fstN, if_pos (by simpa using z)]
      have hnx : ¬ W r h + bsR W (N - 2 - r) (r + 1) (n0 - h) = bsR W (N - 1 - r) r n0 → (h + 1 ≤ n0 → fstN (fun h => decide (W r h + bsR W (N - 2 - r) (r + 1) (n0 - h) = bsR W (N - 1 - r) r n0)) n0 0 = fstN (fun h => decide (W r h + bsR W (N - 2 - r) (r + 1) (n0 - h) = bsR W (N - 1 - r) r n0)) (n0 - (h + 1)) (h + 1)) ∧ (h + 1 = n0 + 1 → fstN (fun h => decide (W r h + bsR W (N - 2 - r) (r + 1) (n0 - h) = bsR W (N - 1 - r) r n0)) n0 0 = n0) := fun z => by
        refine ⟨fun q1 => ?_, fun q1 => ?_⟩
        · rw [hf.1 (by omega), show n0 - h = (n0 - (h + 1)) + 1 by omega, fstN, if_neg (by simpa using z)]
        · rw [hf.1 (by omega), show n0 - h = 0 by omega, fstN]; omega
      refine j_iload_n C (D 10 rfl) rfl ?_
      refine j_iload_n C (D 11 rfl) rfl ?_
      refine j_icmp_gt C  59 (D 12 rfl) (by decide) (fun h16 => absurd h16 (fun z => by rw [nlt (by omega) (by omega)] at z; omega)) (fun h16 => ?_)
      refine j_aload_n C (D 13 rfl) rfl ?_
      refine j_getr C f_X6_11 (sH0 hq) rfl rfl (hL _ _ _ (rH0 hq)) (D 14 rfl) ?_
      refine j_iload_n C (D 15 rfl) rfl ?_
      refine j_aald C (kd := 3) (sH1 hq) rfl (ix_n (by omega) (by decide)) (hL _ _ _ (rHrA hq hr10)) (D 16 rfl) ?_
      refine j_iload_n C (D 17 rfl) rfl ?_
      refine j_iald C (sHrA hq hr10) (ix_n (by omega) (by decide)) (D 18 rfl) ?_
      rw [hR r h (by omega) (by omega)]
      refine j_aload_n C (D 19 rfl) rfl ?_
      refine j_getr C f_X6_16 (sH0 hq) rfl rfl (hL _ _ _ (rH1 hq)) (D 20 rfl) ?_
      refine j_iload_n C (D 21 rfl) rfl ?_
      refine j_iconst C (v := nI 1) (D 22 rfl) rfl ?_
      refine j_iadd C (D 23 rfl) ?_
      rw [nI_add]
      refine j_aald C (kd := 3) (sH12 hq) rfl (ix_n (by omega) (by decide)) (hL _ _ _ (rHrB hq hr11)) (D 24 rfl) ?_
      refine j_iload_n C (D 25 rfl) rfl ?_
      refine j_iload_n C (D 26 rfl) rfl ?_
      refine j_isub C (D 27 rfl) ?_
      rw [pk_sub (by omega)]
      refine j_iald C (sHrB hq hr11) (ix_n (by omega) (by decide)) (D 28 rfl) ?_
      rw [hB (r + 1) (n0 - h) (by omega) (by omega) (by omega), show N - 1 - (r + 1) = N - 2 - r by omega]
      refine j_iadd C (D 29 rfl) ?_
      rw [nI_add]
      refine j_aload_n C (D 30 rfl) rfl ?_
      refine j_getr C f_X6_16 (sH0 hq) rfl rfl (hL _ _ _ (rH1 hq)) (D 31 rfl) ?_
      refine j_iload_n C (D 32 rfl) rfl ?_
      refine j_aald C (kd := 3) (sH12 hq) rfl (ix_n (by omega) (by decide)) (hL _ _ _ (rHrB hq hr10)) (D 33 rfl) ?_
      refine j_iload_n C (D 34 rfl) rfl ?_
      refine j_iald C (sHrB hq hr10) (ix_n (by omega) (by decide)) (D 35 rfl) ?_
      rw [hB r n0 (by omega) (by omega) (by omega)]
      refine j_icmp_ne C  53 (D 36 rfl) (by decide) (fun h48 => ?_) (fun h48 => ?_)
      · first | refine j_iinc1 C (D 39 rfl) rfl rfl ?_ | refine j_iinc C (D 39 rfl) rfl rfl rfl ?_
        refine j_goto C 14 (D 40 rfl) (by decide) ?_
        exact ih (h + 1) (by omega) (hnx (fun z => h48 (by rw [z])))
      · refine j_iload_n C (D 37 rfl) rfl ?_
        exact j_iret C P rfl (D 38 rfl) ⟨Nat.le_refl _, Nat.le_refl _⟩ (pv_i (by rw [fewS, if_neg (by omega)]; exact hat (nI_inj (by omega) (by omega) h48)))
  refine j_iload_n C (D 0 rfl) rfl ?_
  refine j_aload_n C (D 1 rfl) rfl ?_
  refine j_geti C f_X6_19 (sH0 hq) rfl rfl (D 2 rfl) ?_
  rw [h2]
  refine j_iconst C (v := nI 1) (D 3 rfl) rfl ?_
  refine j_isub C (D 4 rfl) ?_
  refine j_icmp_lt C  12 (D 5 rfl) (by decide) (fun h7 => ?_) (fun h7 => ?_)
  · refine j_iconst C (v := nI 0) (D 8 rfl) rfl ?_
    refine j_istore_n C (D 9 rfl) rfl ?_
    exact Lp (by have z := h7; rw [i_lt, nI_int (by omega)] at z; have z2 := pr_int2 (b := N) (by omega); unfold pr at z2; omega) (n0 + 1) 0 (by omega) ⟨fun _ => rfl, fun z => by omega⟩
  · refine j_iload_n C (D 6 rfl) rfl ?_
    exact j_iret C P rfl (D 7 rfl) ⟨Nat.le_refl _, Nat.le_refl _⟩ (pv_i (by rw [fewS, if_pos (by have z := h7; rw [i_lt, nI_int (by omega)] at z; have z2 := pr_int2 (b := N) (by omega); unfold pr at z2; omega)]))
set_option maxRecDepth 20000 in
theorem c_shareOf (l : Launch) (G : GT) {q : Nat} (hq : isH q) {I : Nat → Nat → Int32} {L : Nat → Nat → Int64} {R : Nat → Nat → Option Nat} (hL : Lay R) (W : Nat → Nat → Nat) (N n : Nat) (hN : N ≤ 10) (hn : n ≤ 60) (hM : HM W N n) (hR : HR I q W N n) (h2 : I q 2 = nI N) (hB : HB I q W N n 0) (r n0 : Nat) (hr : r < N) (hn0 : n0 ≤ n) : Mt l G mX6_shareOf (1) 0 0 [.ref (ra G q), .int (nI r), .int (nI n0)] (wd I L R) (pV (.int (nI (shrS W N r n0))) (wd I L R)) := by
  refine mt_of (own := RX6) (by decide) rfl rfl (fun Z C P B => ?_)
  have D := @dc_of _ _ dX6_shareOf
  have Lp : ∀ (m i : Nat), i + m = r → J Z (0, 0) 5 [some (.ref (ra G q)), some (.int (nI r)), some (.int (nI n0)), some (.int (nI (lftS W N n0 i))), some (.int (nI i))] [] (wd I L R) := by
    intro m
    induction m with
    | zero =>
      intro i hi
      have hl := lftS_le W N n0 i
      refine j_iload C (D 4 rfl) rfl ?_
      refine j_iload_n C (D 5 rfl) rfl ?_
      refine j_icmp_ge C  27 (D 6 rfl) (by decide) (fun h8 => ?_) (fun h8 => absurd h8 (fun z => z ((nle (by omega) (by omega)).mpr (by omega))))
      refine j_aload_n C (D 16 rfl) rfl ?_
      refine j_iload_n C (D 17 rfl) rfl ?_
      refine j_iload_n C (D 18 rfl) rfl ?_
      refine j_cVp C B k_X6_32 (rc_obj C (sH0 hq) rfl rfl) (c_fewestFor _ _ hq hL W N n hN hn hM hR h2 hB r (lftS W N n0 i) hr (by omega)) rfl rfl rfl rfl ⟨Nat.le_refl _, Nat.le_refl _⟩ (D 19 rfl) ?_
      exact j_iret C P rfl (D 20 rfl) ⟨Nat.le_refl _, Nat.le_refl _⟩ (pv_i (by rw [shrS, show i = r by omega]))
    | succ m ih =>
      intro i hi
      have hl := lftS_le W N n0 i
      refine j_iload C (D 4 rfl) rfl ?_
      refine j_iload_n C (D 5 rfl) rfl ?_
      refine j_icmp_ge C  27 (D 6 rfl) (by decide) (fun h8 => absurd h8 (fun z => by rw [nle (by omega) (by omega)] at z; omega)) (fun h8 => ?_)
      refine j_iload_n C (D 7 rfl) rfl ?_
      refine j_aload_n C (D 8 rfl) rfl ?_
      refine j_iload C (D 9 rfl) rfl ?_
      refine j_iload_n C (D 10 rfl) rfl ?_
      refine j_cVp C B k_X6_32 (rc_obj C (sH0 hq) rfl rfl) (c_fewestFor _ _ hq hL W N n hN hn hM hR h2 hB i (lftS W N n0 i) (by omega) (by omega)) rfl rfl rfl rfl ⟨Nat.le_refl _, Nat.le_refl _⟩ (D 11 rfl) ?_
      refine j_isub C (D 12 rfl) ?_
      rw [pk_sub (fewS_le _ _ _ _), show lftS W N n0 i - fewS W N i (lftS W N n0 i) = lftS W N n0 (i + 1) from rfl]
      refine j_istore_n C (D 13 rfl) rfl ?_
      first | refine j_iinc1 C (D 14 rfl) rfl rfl ?_ | refine j_iinc C (D 14 rfl) rfl rfl rfl ?_
      refine j_goto C 5 (D 15 rfl) (by decide) ?_
      exact ih (i + 1) (by omega)
  refine j_iload_n C (D 0 rfl) rfl ?_
  refine j_istore_n C (D 1 rfl) rfl ?_
  refine j_iconst C (v := nI 0) (D 2 rfl) rfl ?_
  refine j_istore C (D 3 rfl) rfl ?_
  exact Lp r 0 (by omega)

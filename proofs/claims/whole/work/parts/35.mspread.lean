/-! the model's tables of shares: a row behind the last holds K where hours are left -/
def mB (W : Nat → Nat → Nat) (N : Nat) (K : Int32) (i h : Nat) : Int32 := if i < N then nI (bsR W (N - 1 - i) i h) else if h = 0 ∨ N = 0 then nI 0 else K
def KB (K : Int32) : Prop := -1000000 ≤ K.toInt ∧ K.toInt ≤ -100000
def TB (I : Nat → Nat → Int32) (t : Nat) (W : Nat → Nat → Nat) (N : Nat) (K : Int32) (r : Nat) : Prop := ∀ i h, r ≤ i → i ≤ N → h ≤ 60 → I t (i * 61 + h) = mB W N K i h
def sFn (W : Nat → Nat → Nat) (N i l : Nat) : Nat → Nat := fun k => W i k + bsR W (N - 2 - i) (i + 1) (l - k)
def rnI (W : Nat → Nat → Nat) (N i l h : Nat) (x : Int32) : Prop :=
  (i + 1 < N ∧ ((h = 0 ∧ x.toInt < 0) ∨ (0 < h ∧ x = nI (mx0 (sFn W N i l) h)))) ∨ (i + 1 = N ∧ ((h ≤ l ∧ x.toInt < 0) ∨ (h = l + 1 ∧ x = nI (W i l))))
theorem mval_in {W : Nat → Nat → Nat} {N : Nat} {K : Int32} {i h l : Nat} (hi : i + 1 < N) : nI (W i h) + mB W N K (i + 1) (l - h) = nI (sFn W N i l h) := by
  unfold mB sFn
  rw [if_pos hi, nI_add, show N - 1 - (i + 1) = N - 2 - i by omega]
theorem mval_last {W : Nat → Nat → Nat} {N : Nat} {K : Int32} {i l : Nat} (hi : i + 1 = N) : nI (W i l) + mB W N K (i + 1) (l - l) = nI (W i l) := by
  unfold mB
  rw [if_neg (by omega), if_pos (by omega), nI_add]; rfl
theorem mval_neg {W : Nat → Nat → Nat} {N : Nat} {K : Int32} (hK : KB K) {i h l : Nat} (hi : i + 1 = N) (hh : h < l) (hW : W i h ≤ 20000) : (nI (W i h) + mB W N K (i + 1) (l - h)).toInt < 0 := by
  have k1 := hK.1
  have k2 := hK.2
  unfold mB
  rw [if_neg (by omega), if_neg (by omega), i_add (by rw [nI_int (by omega)]; omega) (by rw [nI_int (by omega)]; omega), nI_int (by omega)]; omega
theorem sFn_rng {W : Nat → Nat → Nat} {N i l : Nat} (hM : HM W N 60) (hN : N ≤ 10) (hi : i + 1 < N) (hl : l ≤ 60) {k : Nat} (hk : k ≤ l) : sFn W N i l k ≤ 220000 := by
  have h1 := hM i k (by omega) (by omega)
  have h2 := bsR_rng (m := N - 2 - i) (r := i + 1) (h := l - k) hM hN (by omega) (by omega)
  unfold sFn; omega
theorem rn_step {W : Nat → Nat → Nat} {N : Nat} {K : Int32} (hK : KB K) (hM : HM W N 60) (hN : N ≤ 10) {i l h : Nat} {x : Int32} (hl : l ≤ 60) (hh : h ≤ l) (hx : rnI W N i l h x) :
    rnI W N i l (h + 1) (if x < nI (W i h) + mB W N K (i + 1) (l - h) then nI (W i h) + mB W N K (i + 1) (l - h) else x) := by
  rcases hx with ⟨hi, hx⟩ | ⟨hi, hx⟩
  · refine Or.inl ⟨hi, Or.inr ⟨by omega, ?_⟩⟩
    have hb := sFn_rng hM hN hi hl hh
    rw [mval_in hi]
    rcases hx with ⟨rfl, hx⟩ | ⟨h0, rfl⟩
    · rw [if_pos (i_lt.mpr (by rw [nI_int (by omega)]; omega))]
      show _ = nI (max 0 _)
      rw [Nat.zero_max]
    · have hb2 : mx0 (sFn W N i l) h ≤ 220000 := mx0_le (fun k hk => sFn_rng hM hN hi hl (by omega))
      rw [mx_i (by omega) (by omega)]; rfl
  · have hb := hM i h (by omega) (by omega)
    refine Or.inr ⟨hi, ?_⟩
    have hx := hx.resolve_right (by omega)
    by_cases e : h = l
    · subst e
      refine Or.inr ⟨rfl, ?_⟩
      rw [mval_last hi, if_pos (i_lt.mpr (by rw [nI_int (by omega)]; omega))]
    · refine Or.inl ⟨by omega, ?_⟩
      have := mval_neg (W := W) hK hi (show h < l by omega) hb
      by_cases q : x < nI (W i h) + mB W N K (i + 1) (l - h)
      · rw [if_pos q]; exact this
      · rw [if_neg q]; exact hx.2
theorem rn_0 {W : Nat → Nat → Nat} {N i l : Nat} {x : Int32} (hi : i < N) (hx : x.toInt < 0) : rnI W N i l 0 x := by
  by_cases e : i + 1 < N
  · exact Or.inl ⟨e, Or.inl ⟨rfl, hx⟩⟩
  · exact Or.inr ⟨by omega, Or.inl ⟨by omega, hx⟩⟩
theorem rn_end {W : Nat → Nat → Nat} {N i l h : Nat} {K : Int32} {x : Int32} (hh : h = l + 1) (hx : rnI W N i l h x) : x = mB W N K i l := by
  unfold mB
  rcases hx with ⟨hi, hx⟩ | ⟨hi, hx⟩
  · rw [if_pos (by omega)]
    rcases hx with ⟨q, _⟩ | ⟨_, rfl⟩
    · omega
    · rw [show N - 1 - i = (N - 2 - i) + 1 by omega, bsR, hh]; rfl
  · rw [if_pos (by omega), show N - 1 - i = 0 by omega, bsR]
    rcases hx with ⟨q, _⟩ | ⟨_, rfl⟩
    · omega
    · rfl
/-! the fewest hours -/
theorem fstN_no {P : Nat → Bool} : ∀ {m i j : Nat}, i ≤ j → j < fstN P m i → ¬ P j = true
  | 0, i, j, h1, h2 => by rw [fstN] at h2; omega
  | m + 1, i, j, h1, h2 => by
    rw [fstN] at h2
    by_cases c : P i = true
    · rw [if_pos c] at h2; omega
    · rw [if_neg c] at h2
      by_cases e : j = i
      · rw [e]; exact c
      · exact fstN_no (by omega) h2
theorem fstN_yes {P : Nat → Bool} : ∀ {m i : Nat}, (∃ j, i ≤ j ∧ j ≤ i + m ∧ P j = true) → P (fstN P m i) = true
  | 0, i, ⟨j, h1, h2, h3⟩ => by rw [fstN, show i = j by omega]; exact h3
  | m + 1, i, ⟨j, h1, h2, h3⟩ => by
    rw [fstN]
    by_cases c : P i = true
    · rw [if_pos c]; exact c
    · rw [if_neg c]
      exact fstN_yes ⟨j, by (by_cases e : i = j; exact absurd (by rw [e]; exact h3) c; omega), by omega, h3⟩
theorem few_iff {W : Nat → Nat → Nat} {N : Nat} {K : Int32} (hK : KB K) (hM : HM W N 60) (hN : N ≤ 10) {i l h : Nat} (hl : l ≤ 60) (hi : i < N) (hh : h ≤ fewS W N i l) :
    nI (W i h) + mB W N K (i + 1) (l - h) = mB W N K i l ↔ h = fewS W N i l := by
  have hfl := fewS_le W N i l
  by_cases e : i + 1 < N
  · have hb := sFn_rng hM hN e hl (show h ≤ l by omega)
    have hb2 := bsR_rng (m := N - 1 - i) (r := i) (h := l) hM hN (by omega) hl
    rw [mval_in e]
    unfold mB
    rw [if_pos hi]
    have hf : fewS W N i l = fstN (fun h => decide (W i h + bsR W (N - 2 - i) (i + 1) (l - h) = bsR W (N - 1 - i) i l)) l 0 := by rw [fewS, if_neg (by omega)]
    constructor
    · intro q
      have q := nI_inj (by omega) (by omega) q
      by_cases z : h = fewS W N i l
      · exact z
      · exact absurd (decide_eq_true q) (fstN_no (P := fun h => decide (W i h + bsR W (N - 2 - i) (i + 1) (l - h) = bsR W (N - 1 - i) i l)) (m := l) (i := 0) (j := h) (by omega) (by omega))
    · intro q
      obtain ⟨j, j1, j2⟩ := mx0_at (f := sFn W N i l) (n := l + 1) (by omega)
      have ee : bsR W (N - 1 - i) i l = mx0 (sFn W N i l) (l + 1) := by rw [show N - 1 - i = (N - 2 - i) + 1 by omega, bsR]; rfl
      have := fstN_yes (P := fun h => decide (W i h + bsR W (N - 2 - i) (i + 1) (l - h) = bsR W (N - 1 - i) i l)) (m := l) (i := 0) ⟨j, by omega, by omega, by rw [decide_eq_true_eq, ee, ← j2]; rfl⟩
      rw [← hf, ← q, decide_eq_true_eq] at this
      rw [← this]; rfl
  · have hN1 : i + 1 = N := by omega
    have hf : fewS W N i l = l := by rw [fewS, if_pos (by omega)]
    have hmB : mB W N K i l = nI (W i l) := by unfold mB; rw [if_pos hi, show N - 1 - i = 0 by omega, bsR]
    have hWl := hM i l hi hl
    rw [hf, hmB]
    constructor
    · intro q
      by_cases z : h = l
      · exact z
      · have := mval_neg (W := W) hK hN1 (show h < l by omega) (hM i h hi (by omega))
        rw [q, nI_int (by omega)] at this
        omega
    · intro q; rw [q]; exact mval_last hN1
theorem mB_0 {W : Nat → Nat → Nat} {N : Nat} {K : Int32} (h : Nat) : mB W N K 0 h = nI (mstS W N h) := by
  unfold mB mstS
  by_cases e : N = 0
  · rw [if_neg (by omega), if_pos (Or.inr e), if_pos e]
  · rw [if_pos (by omega), if_neg e, Nat.sub_zero]
theorem KB_1 : KB (-100000) := ⟨by decide, by decide⟩
theorem KB_2 : KB (-1000000) := ⟨by decide, by decide⟩
set_option maxRecDepth 20000 in
theorem d_byAt (l : Launch) (G : GT) {I : Nat → Nat → Int32} {L : Nat → Nat → Int64} {R : Nat → Nat → Option Nat} (hL : Lay R) (e h : Nat) : Mt l G mX12_byAt (0) 0 0 [.int (nI e), .int (nI h)] (wd I L R) (pV (.int (nI (e * 61 + h))) (wd I L R)) := by
  refine mt_of (own := RX12) (by decide) rfl rfl (fun Z C P B => ?_)
  have D := @dc_of _ _ dX12_byAt
  refine j_iload_n C (D 0 rfl) rfl ?_
  refine j_bipush C (v := nI 61) (D 1 rfl) rfl ?_
  refine j_imul C (D 2 rfl) ?_
  refine j_iload_n C (D 3 rfl) rfl ?_
  refine j_iadd C (D 4 rfl) ?_
  exact j_iret C P rfl (D 5 rfl) ⟨Nat.le_refl _, Nat.le_refl _⟩ (pv_i (by rw [pk_mul, nI_add]))
set_option maxRecDepth 20000 in
theorem d_spreadBy (l : Launch) (G : GT) {I : Nat → Nat → Int32} {L : Nat → Nat → Int64} {R : Nat → Nat → Option Nat} (hL : Lay R) {V : VT} (hV : WV V) (hM : MT I V) (a i h lf : Nat) (ha : a < vA V) (hi : i < vE V) (hh : h ≤ lf) (hl : lf ≤ 60) (hB : TB I 191 (evW V a) (vE V) (-100000) (i + 1)) : Mt l G mX12_spreadBy (4) 0 0 [.ref (ra G 172), .int (nI a), .int (nI i), .int (nI h), .int (nI lf)] (wd I L R) (pV (.int (nI (evW V a i h) + mB (evW V a) (vE V) (-100000) (i + 1) (lf - h))) (wd I L R)) := by
  refine mt_of (own := RX12) (by decide) rfl rfl (fun Z C P B => ?_)
  have D := @dc_of _ _ dX12_spreadBy
  have hE10 := hV.1
  refine j_aload_n C (D 0 rfl) rfl ?_
  refine j_iload_n C (D 1 rfl) rfl ?_
  refine j_iload_n C (D 2 rfl) rfl ?_
  refine j_iload_n C (D 3 rfl) rfl ?_
  refine j_cVp C B k_X12_434 (rc_obj C (lit (kd := 12) (n := 48) rfl) rfl rfl) (d_trainedWorth _ _ hL hV hM a i h ha hi (by omega)) rfl rfl rfl rfl ⟨Nat.le_refl _, Nat.le_refl _⟩ (D 4 rfl) ?_
  refine j_aload_n C (D 5 rfl) rfl ?_
  refine j_getr C f_X12_71 (lit (kd := 12) (n := 48) rfl) rfl rfl (hL _ _ _ rfl) (D 6 rfl) ?_
  refine j_iload_n C (D 7 rfl) rfl ?_
  refine j_iconst C (v := nI 1) (D 8 rfl) rfl ?_
  refine j_iadd C (D 9 rfl) ?_
  refine j_iload C (D 10 rfl) rfl ?_
  refine j_iload_n C (D 11 rfl) rfl ?_
  refine j_isub C (D 12 rfl) ?_
  rw [nI_add, pk_sub hh]
  refine j_cSp C B k_X12_437 (d_byAt _ _ hL (i + 1) (lf - h)) rfl rfl rfl rfl ⟨Nat.le_refl _, Nat.le_refl _⟩ (D 13 rfl) ?_
  refine j_iald C (lit (kd := 20) (n := 671) rfl) (ix_n (by omega) (by decide)) (D 14 rfl) ?_
  rw [hB (i + 1) (lf - h) (by omega) (by omega) (by omega)]
  refine j_iadd C (D 15 rfl) ?_
  exact j_iret C P rfl (D 16 rfl) ⟨Nat.le_refl _, Nat.le_refl _⟩ (pv_i (by rw [evW_i hV a i h hi]))
set_option maxRecDepth 20000 in
theorem d_laysSpread (l : Launch) (G : GT) {I : Nat → Nat → Int32} {L : Nat → Nat → Int64} {R : Nat → Nat → Option Nat} (hL : Lay R) {V : VT} (hV : WV V) (hM : MT I V) (a : Nat) (ha : a < vA V) : Mt l G mX12_laysSpread (5) 0 0 [.ref (ra G 172), .int (nI a)] (wd I L R) (fun r w' => r = none ∧ ∃ I', w' = wd I' L R ∧ (∀ b j, ¬ b = 191 → I' b j = I b j) ∧ TB I' 191 (evW V a) (vE V) (-100000) 0) := by
  refine mt_of (own := RX12) (by decide) rfl rfl (fun Z C P B => ?_)
  have D := @dc_of _ _ dX12_laysSpread
  have hE10 := hV.1
  have hWM := evW_M hV a 60
  have Lp2 : ∀ (k : Nat) (x3 x4 x5 : Option Value) (I1 : Nat → Nat → Int32), k ≤ vE V → (∀ b j, ¬ b = 191 → I1 b j = I b j) → TB I1 191 (evW V a) (vE V) (-100000) k → J Z (0, 0) 52 [some (.ref (ra G 172)), some (.int (nI a)), some (.int (pr k)), x3, x4, x5] [] (wd I1 L R) := by
    intro k
    induction k with
    | zero =>
      intro x3 x4 x5 I1 hk hF hB
      refine j_iload_n C (D 27 rfl) rfl ?_
      refine j_if_lt C  124 (D 28 rfl) (by decide) (fun h53 => ?_) (fun h53 => absurd h53 (fun z => z (i_lt.mpr (by rw [pr_int2 (by omega), i0]; omega))))
      exact j_vret C P rfl (D 63 rfl) ⟨Nat.le_refl _, Nat.le_refl _⟩ ⟨rfl, I1, rfl, hF, fun i h _ => hB i h (by omega)⟩
    | succ i ih =>
      intro x3 x4 x5 I1 hk hF hB
      have ihk : ∀ (x3 x4 x5 : Option Value) (I1 : Nat → Nat → Int32), (∀ b j, ¬ b = 191 → I1 b j = I b j) → TB I1 191 (evW V a) (vE V) (-100000) i → J Z (0, 0) 52 [some (.ref (ra G 172)), some (.int (nI a)), some (.int (pr i)), x3, x4, x5] [] (wd I1 L R) := fun x3 x4 x5 I1 q1 q2 => ih x3 x4 x5 I1 (by omega) q1 q2
      have Lp3 : ∀ (m l : Nat) (x4 x5 : Option Value) (I2 : Nat → Nat → Int32), l + m = 61 → (∀ b j, ¬ b = 191 → I2 b j = I b j) → TB I2 191 (evW V a) (vE V) (-100000) (i + 1) → (∀ h9, h9 < l → I2 191 (i * 61 + h9) = mB (evW V a) (vE V) (-100000) i h9) → J Z (0, 0) 58 [some (.ref (ra G 172)), some (.int (nI a)), some (.int (nI i)), some (.int (nI l)), x4, x5] [] (wd I2 L R) := by
        intro m
        induction m with
        | zero =>
          intro l x4 x5 I2 hl hF hB hr
          refine j_iload_n C (D 31 rfl) rfl ?_
          refine j_bipush C (v := nI 60) (D 32 rfl) rfl ?_
          refine j_icmp_gt C  118 (D 33 rfl) (by decide) (fun h61 => ?_) (fun h61 => absurd h61 (fun z => z ((nlt (by omega) (by omega)).mpr (by omega))))
          refine j_iinc C (D 61 rfl) rfl rfl rfl ?_
          rw [pr_d]
          refine j_goto C 52 (D 62 rfl) (by decide) ?_
          exact ihk _ _ _ I2 hF (fun j h q1 q2 q3 => by
            by_cases q : j = i
            · rw [q]; exact hr h (by omega)
            · exact hB j h (by omega) q2 q3)
        | succ m ih3 =>
          intro l x4 x5 I2 hl hF hB hr
          have hM2 : MT I2 V := MT_fr hM (fun b j q => hF b j (by omega))
          have Lp4 : ∀ (m h : Nat) (x : Int32), h + m = l + 1 → rnI (evW V a) (vE V) i l h x → J Z (0, 0) 72 [some (.ref (ra G 172)), some (.int (nI a)), some (.int (nI i)), some (.int (nI l)), some (.int x), some (.int (nI h))] [] (wd I2 L R) := by
            intro m
            induction m with
            | zero =>
              intro h x hh hx
              refine j_iload C (D 38 rfl) rfl ?_
              refine j_iload_n C (D 39 rfl) rfl ?_
              refine j_icmp_gt C  100 (D 40 rfl) (by decide) (fun h75 => ?_) (fun h75 => absurd h75 (fun z => z ((nlt (by omega) (by omega)).mpr (by omega))))
              refine j_aload_n C (D 52 rfl) rfl ?_
              refine j_getr C f_X12_71 (lit (kd := 12) (n := 48) rfl) rfl rfl (hL _ _ _ rfl) (D 53 rfl) ?_
              refine j_iload_n C (D 54 rfl) rfl ?_
              refine j_iload_n C (D 55 rfl) rfl ?_
              refine j_cSp C B k_X12_437 (d_byAt _ _ hL (i) (l)) rfl rfl rfl rfl ⟨Nat.le_refl _, Nat.le_refl _⟩ (D 56 rfl) ?_
              refine j_iload C (D 57 rfl) rfl ?_
              refine j_iast C (lit (kd := 20) (n := 671) rfl) (ix_n (by omega) (by decide)) (D 58 rfl) ?_
              first | refine j_iinc1 C (D 59 rfl) rfl rfl ?_ | refine j_iinc C (D 59 rfl) rfl rfl rfl ?_
              refine j_goto C 58 (D 60 rfl) (by decide) ?_
              exact ih3 (l + 1) _ _ _ (by omega) (fun b j q => by rw [up2_i (by omega)]; exact hF b j q) (fun j h9 q1 q2 q3 => by rw [up2_i (by omega)]; exact hB j h9 q1 q2 q3) (fun h9 q1 => by
                by_cases q : h9 = l
                · rw [q, up2_same]; exact rn_end (by omega) hx
                · rw [up2_i (by omega)]; exact hr h9 (by omega))
            | succ m ih4 =>
              intro h x hh hx
              refine j_iload C (D 38 rfl) rfl ?_
              refine j_iload_n C (D 39 rfl) rfl ?_
              refine j_icmp_gt C  100 (D 40 rfl) (by decide) (fun h75 => absurd h75 (fun z => by rw [nlt (by omega) (by omega)] at z; omega)) (fun h75 => ?_)
              refine j_iload C (D 41 rfl) rfl ?_
              refine j_aload_n C (D 42 rfl) rfl ?_
              refine j_iload_n C (D 43 rfl) rfl ?_
              refine j_iload_n C (D 44 rfl) rfl ?_
              refine j_iload C (D 45 rfl) rfl ?_
              refine j_iload_n C (D 46 rfl) rfl ?_
              refine j_cVp C B k_X12_442 (rc_obj C (lit (kd := 12) (n := 48) rfl) rfl rfl) (d_spreadBy _ _ hL hV hM2 a i h l ha (by omega) (by omega) (by omega) hB) rfl rfl rfl rfl ⟨Nat.le_refl _, Nat.le_refl _⟩ (D 47 rfl) ?_
              refine j_mmax C B k_X12_365 rfl rfl ⟨Nat.le_refl _, Nat.le_refl _⟩ (D 48 rfl) ?_
              refine j_istore C (D 49 rfl) rfl ?_
              first | refine j_iinc1 C (D 50 rfl) rfl rfl ?_ | refine j_iinc C (D 50 rfl) rfl rfl rfl ?_
              refine j_goto C 72 (D 51 rfl) (by decide) ?_
              exact ih4 (h + 1) _ (by omega) (rn_step KB_1 hWM hE10 (by omega) (by omega) hx)
          refine j_iload_n C (D 31 rfl) rfl ?_
          refine j_bipush C (v := nI 60) (D 32 rfl) rfl ?_
          refine j_icmp_gt C  118 (D 33 rfl) (by decide) (fun h61 => absurd h61 (fun z => by rw [nlt (by omega) (by omega)] at z; omega)) (fun h61 => ?_)
          refine j_ldc_w C (v := (-200000)) (D 34 rfl) n_X12_441 ?_
          refine j_istore C (D 35 rfl) rfl ?_
          refine j_iconst C (v := nI 0) (D 36 rfl) rfl ?_
          refine j_istore C (D 37 rfl) rfl ?_
          exact Lp4 (l + 1) 0 _ (by omega) (rn_0 (by omega) (by decide))
      rw [pr_s]
      refine j_iload_n C (D 27 rfl) rfl ?_
      refine j_if_lt C  124 (D 28 rfl) (by decide) (fun h53 => absurd h53 (fun z => by rw [i_lt, nI_int (by omega), i0] at z; omega)) (fun h53 => ?_)
      refine j_iconst C (v := nI 0) (D 29 rfl) rfl ?_
      refine j_istore_n C (D 30 rfl) rfl ?_
      exact Lp3 61 0 _ _ I1 (by omega) hF hB (fun h hh => absurd hh (by omega))
  have Lp : ∀ (m h : Nat) (x3 x4 x5 : Option Value) (I1 : Nat → Nat → Int32), h + m = 61 → (∀ b j, ¬ b = 191 → I1 b j = I b j) → (∀ h9, h9 < h → I1 191 (vE V * 61 + h9) = mB (evW V a) (vE V) (-100000) (vE V) h9) → J Z (0, 0) 2 [some (.ref (ra G 172)), some (.int (nI a)), some (.int (nI h)), x3, x4, x5] [] (wd I1 L R) := by
    intro m
    induction m with
    | zero =>
      intro h x3 x4 x5 I1 hh hF hr
      have hM1 : MT I1 V := MT_fr hM (fun b j q => hF b j (by omega))
      refine j_iload_n C (D 2 rfl) rfl ?_
      refine j_bipush C (v := nI 60) (D 3 rfl) rfl ?_
      refine j_icmp_gt C  45 (D 4 rfl) (by decide) (fun h5 => ?_) (fun h5 => absurd h5 (fun z => z ((nlt (by omega) (by omega)).mpr (by omega))))
      refine j_aload_n C (D 22 rfl) rfl ?_
      refine j_geti C f_X12_300 (lit (kd := 12) (n := 48) rfl) rfl rfl (D 23 rfl) ?_
      refine j_iconst C (v := nI 1) (D 24 rfl) rfl ?_
      refine j_isub C (D 25 rfl) ?_
      rw [hM1.1]
      refine j_istore_n C (D 26 rfl) rfl ?_
      exact Lp2 (vE V) _ _ _ I1 (Nat.le_refl _) hF (fun i h9 q1 q2 q3 => by rw [show i = vE V by omega]; exact hr h9 (by omega))
    | succ m ih =>
      intro h x3 x4 x5 I1 hh hF hr
      have hM1 : MT I1 V := MT_fr hM (fun b j q => hF b j (by omega))
      refine j_iload_n C (D 2 rfl) rfl ?_
      refine j_bipush C (v := nI 60) (D 3 rfl) rfl ?_
      refine j_icmp_gt C  45 (D 4 rfl) (by decide) (fun h5 => absurd h5 (fun z => by rw [nlt (by omega) (by omega)] at z; omega)) (fun h5 => ?_)
      refine j_aload_n C (D 5 rfl) rfl ?_
      refine j_getr C f_X12_71 (lit (kd := 12) (n := 48) rfl) rfl rfl (hL _ _ _ rfl) (D 6 rfl) ?_
      refine j_aload_n C (D 7 rfl) rfl ?_
      refine j_geti C f_X12_300 (lit (kd := 12) (n := 48) rfl) rfl rfl (D 8 rfl) ?_
      refine j_iload_n C (D 9 rfl) rfl ?_
      rw [hM1.1]
      refine j_cSp C B k_X12_437 (d_byAt _ _ hL (vE V) (h)) rfl rfl rfl rfl ⟨Nat.le_refl _, Nat.le_refl _⟩ (D 10 rfl) ?_
      refine j_iload_n C (D 11 rfl) rfl ?_
      refine j_if_eq C  31 (D 12 rfl) (by decide) (fun h21 => ?_) (fun h21 => ?_)
      · refine j_iconst C (v := nI 0) (D 16 rfl) rfl ?_
        refine j_goto C 38 (D 17 rfl) (by decide) ?_
        refine j_iast C (lit (kd := 20) (n := 671) rfl) (ix_n (by omega) (by decide)) (D 19 rfl) ?_
        first | refine j_iinc1 C (D 20 rfl) rfl rfl ?_ | refine j_iinc C (D 20 rfl) rfl rfl rfl ?_
        refine j_goto C 2 (D 21 rfl) (by decide) ?_
        exact ih (h + 1) _ _ _ _ (by omega) (fun b j q => by rw [up2_i (by omega)]; exact hF b j q) (fun h9 q1 => by
          by_cases q : h9 = h
          · rw [q, up2_same, mB, if_neg (by omega), if_pos (Or.inl (nI_inj (by omega) (by decide) h21))]
          · rw [up2_i (by omega)]; exact hr h9 (by omega))
      · refine j_aload_n C (D 13 rfl) rfl ?_
        refine j_geti C f_X12_300 (lit (kd := 12) (n := 48) rfl) rfl rfl (D 14 rfl) ?_
        rw [hM1.1]
        refine j_if_ne C  35 (D 15 rfl) (by decide) (fun h28 => ?_) (fun h28 => ?_)
        · refine j_ldc_w C (v := (-100000)) (D 18 rfl) n_X12_440 ?_
          refine j_iast C (lit (kd := 20) (n := 671) rfl) (ix_n (by omega) (by decide)) (D 19 rfl) ?_
          first | refine j_iinc1 C (D 20 rfl) rfl rfl ?_ | refine j_iinc C (D 20 rfl) rfl rfl rfl ?_
          refine j_goto C 2 (D 21 rfl) (by decide) ?_
          exact ih (h + 1) _ _ _ _ (by omega) (fun b j q => by rw [up2_i (by omega)]; exact hF b j q) (fun h9 q1 => by
            by_cases q : h9 = h
            · rw [q, up2_same, mB, if_neg (by omega), if_neg (fun z => z.elim (fun z => h21 (by rw [z]; rfl)) (fun z => h28 (by rw [z]; rfl)))]
            · rw [up2_i (by omega)]; exact hr h9 (by omega))
        · refine j_iconst C (v := nI 0) (D 16 rfl) rfl ?_
          refine j_goto C 38 (D 17 rfl) (by decide) ?_
          refine j_iast C (lit (kd := 20) (n := 671) rfl) (ix_n (by omega) (by decide)) (D 19 rfl) ?_
          first | refine j_iinc1 C (D 20 rfl) rfl rfl ?_ | refine j_iinc C (D 20 rfl) rfl rfl rfl ?_
          refine j_goto C 2 (D 21 rfl) (by decide) ?_
          exact ih (h + 1) _ _ _ _ (by omega) (fun b j q => by rw [up2_i (by omega)]; exact hF b j q) (fun h9 q1 => by
            by_cases q : h9 = h
            · rw [q, up2_same, mB, if_neg (by omega), if_pos (Or.inr (nI_inj (by omega) (by decide) h28))]
            · rw [up2_i (by omega)]; exact hr h9 (by omega))
  refine j_iconst C (v := nI 0) (D 0 rfl) rfl ?_
  refine j_istore_n C (D 1 rfl) rfl ?_
  exact Lp 61 0 _ _ _ _ (by omega) (fun _ _ _ => rfl) (fun h q => absurd q (by omega))

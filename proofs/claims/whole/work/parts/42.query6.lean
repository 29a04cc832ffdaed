theorem odC {s n : Int32} (h : wi 1 40 n) : s ≤ 2147483647 - n ↔ s.toInt + n.toInt ≤ 2147483647 := by
  have := h.1; have := h.2
  have e : (2147483647 : Int32).toInt = 2147483647 := by decide
  rw [i_le, i_sub (by rw [e]; omega) (by rw [e]; omega), e]; omega
theorem odM {s n : Int32} {x : Int64} (e : x.toInt = 2147483647) : 0 < lg_cmp (s.toInt64 + n.toInt64) x ↔ ¬ s.toInt + n.toInt ≤ 2147483647 := by
  have := i_rng s; have := i_rng n
  rw [lc_gt, l_add (by rw [i_l, i_l]; omega) (by rw [i_l, i_l]; omega), i_l, i_l, e]; omega
theorem shr_int (x : Int32) {k : Nat} (hk : k ≤ 8) : (x >>> (nI k &&& 31)).toInt = x.toInt / (2 ^ k : Nat) := by
  have h : ∀ y : Int32, y.toBitVec.smod 32 = BitVec.ofNat 32 k → (x >>> y).toInt = x.toInt / (2 ^ k : Nat) := fun y hy => by
    show (x >>> y).toBitVec.toInt = _
    rw [Int32.toBitVec_shiftRight, hy, BitVec.sshiftRight', BitVec.toInt_sshiftRight, Int.shiftRight_eq_div_pow]
    rw [BitVec.toNat_ofNat, Nat.mod_eq_of_lt (by omega)]; rfl
  refine h _ ?_
  rcases (show k = 0 ∨ k = 1 ∨ k = 2 ∨ k = 3 ∨ k = 4 ∨ k = 5 ∨ k = 6 ∨ k = 7 ∨ k = 8 by omega) with rfl | rfl | rfl | rfl | rfl | rfl | rfl | rfl | rfl <;> decide
theorem shr_0 (x : Int32) {k : Nat} (hk : k ≤ 8) : x >>> (nI k &&& 31) = 0 ↔ wi 0 ((2 ^ k : Nat) - 1) x := by
  rw [i_eq, shr_int x hk, i0]
  rcases (show k = 0 ∨ k = 1 ∨ k = 2 ∨ k = 3 ∨ k = 4 ∨ k = 5 ∨ k = 6 ∨ k = 7 ∨ k = 8 by omega) with rfl | rfl | rfl | rfl | rfl | rfl | rfl | rfl | rfl <;> (unfold wi; constructor <;> intro h <;> omega)
theorem shl_1 {k : Nat} (hk : k ≤ 8) : (nI 1 <<< (nI k &&& 31) - nI 1).toInt = (2 ^ k : Nat) - 1 := by
  rcases (show k = 0 ∨ k = 1 ∨ k = 2 ∨ k = 3 ∨ k = 4 ∨ k = 5 ∨ k = 6 ∨ k = 7 ∨ k = 8 by omega) with rfl | rfl | rfl | rfl | rfl | rfl | rfl | rfl | rfl <;> decide
def tmS (V : VT) (x : Int32) (a : Nat) : Int32 := if x >>> (nI a &&& 31) &&& nI 1 = nI 1 then totS V (ptM V (vmk V)) (gM (vmk V)) a else nI 0
def bhS (V : VT) (a e : Nat) : Int32 := mxN (ptM V (vmk V)) e (vA V) - ptM V (vmk V) a e
/-! the closest two -/
def czS (f : Nat → Nat → Int32) (a b : Nat) (s : Int32 × Int32) : Int32 × Int32 := if s.1 = -1 ∨ f a b < s.2 then (nI 10 * nI a + nI b, f a b) else s
def clB (f : Nat → Nat → Int32) (a : Nat) : Nat → Nat → Int32 × Int32 → Int32 × Int32
  | 0, _, s => s
  | m + 1, b, s => clB f a m (b + 1) (czS f a b s)
def clA (f : Nat → Nat → Int32) (n : Nat) : Nat → Nat → Int32 × Int32 → Int32 × Int32
  | 0, _, s => s
  | m + 1, a, s => clA f n m (a + 1) (clB f a (n - (a + 1)) (a + 1) s)
def apS (V : VT) (a b : Nat) : Int32 := abI (totS V (ptM V (vmk V)) (gM (vmk V)) a - totS V (ptM V (vmk V)) (gM (vmk V)) b)
theorem czS_t {f : Nat → Nat → Int32} {a b : Nat} {x y : Int32} (h : x = -1 ∨ f a b < y) : czS f a b (x, y) = (nI 10 * nI a + nI b, f a b) := if_pos h
theorem czS_f {f : Nat → Nat → Int32} {a b : Nat} {x y : Int32} (h : ¬ (x = -1 ∨ f a b < y)) : czS f a b (x, y) = (x, y) := if_neg h
def a_odds (V : VT) (ld : Bool) (s n a : Int32) : Int32 := if inR (vA V) a ∧ 0 ≤ s.toInt ∧ wi 1 40 n ∧ s.toInt + n.toInt ≤ 2147483647 then nI (cnt (fun i => decide (rkS V (ptM V (drS V (tn s + i))) (gM (drS V (tn s + i))) (tn a) = 0)) (tn n)) else -2
theorem a_odds_t {V : VT} {ld : Bool} {s n a : Int32} (hX : inR (vA V) a ∧ 0 ≤ s.toInt ∧ wi 1 40 n ∧ s.toInt + n.toInt ≤ 2147483647) : a_odds V ld s n a = nI (cnt (fun i => decide (rkS V (ptM V (drS V (tn s + i))) (gM (drS V (tn s + i))) (tn a) = 0)) (tn n)) := if_pos hX
theorem a_odds_f {V : VT} {ld : Bool} {s n a : Int32} (hX : ¬ (inR (vA V) a ∧ 0 ≤ s.toInt ∧ wi 1 40 n ∧ s.toInt + n.toInt ≤ 2147483647)) : a_odds V ld s n a = -2 := if_neg hX
set_option maxRecDepth 20000 in
theorem c_oddsQ (l : Launch) (G : GT) {c : Nat} (hc : isC c) {I : Nat → Nat → Int32} {L : Nat → Nat → Int64} {R : Nat → Nat → Option Nat} (hL : Lay R) (hr5 : R 0 5 = some c) {V : VT} (hV : WV V) (hT : CT I c V) (ld : Bool) (hld : I 0 6 = b2 (ld = true)) (s n a : Int32) : Mt l G mX11_odds (8) 0 0 [.ref (ra G 0), .int s, .int n, .int a] (wd I L R) (qC (a_odds V ld s n a) I R) := by
  refine mt_of (own := RX11) (by decide) rfl rfl (fun Z C P B => ?_)
  have D := @dc_of _ _ dX11_odds
  have hE10 := hV.1
  have hA8 := hV.2.1
  refine j_aload_n C (D 0 rfl) rfl ?_
  refine j_iload_n C (D 1 rfl) rfl ?_
  refine j_cVp C B k_X11_184 (rc_obj C (lit (kd := 11) (n := 12) rfl) rfl rfl) (c_hasAthlete _ _ hc hL hr5 hV hT ld hld _) rfl rfl rfl rfl ⟨Nat.le_refl _, Nat.le_refl _⟩ (D 2 rfl) ?_
  refine j_if_eq C  31 (D 3 rfl) (by decide) (fun h5 => ?_) (fun h5 => ?_)
  · refine j_bipush C (v := (-2)) (D 16 rfl) rfl ?_
    exact j_iret C P rfl (D 17 rfl) ⟨Nat.le_refl _, Nat.le_refl _⟩ (qc0 (a_odds_f (fun z => b2_eq h5 z.1)).symm)
  · refine j_iload_n C (D 4 rfl) rfl ?_
    refine j_if_lt C  31 (D 5 rfl) (by decide) (fun h9 => ?_) (fun h9 => ?_)
    · refine j_bipush C (v := (-2)) (D 16 rfl) rfl ?_
      exact j_iret C P rfl (D 17 rfl) ⟨Nat.le_refl _, Nat.le_refl _⟩ (qc0 (a_odds_f (fun z => absurd (i_lt.mp h9) (by rw [i0]; have := z.2.1; omega))).symm)
    · refine j_iload_n C (D 6 rfl) rfl ?_
      refine j_iconst C (v := nI 1) (D 7 rfl) rfl ?_
      refine j_bipush C (v := nI 40) (D 8 rfl) rfl ?_
      refine j_cSp C B k_X11_158 (c_isWithin _ _ _ _ _ _) rfl rfl rfl rfl ⟨Nat.le_refl _, Nat.le_refl _⟩ (D 9 rfl) ?_
      refine j_if_eq C  31 (D 10 rfl) (by decide) (fun h19 => ?_) (fun h19 => ?_)
      · refine j_bipush C (v := (-2)) (D 16 rfl) rfl ?_
        exact j_iret C P rfl (D 17 rfl) ⟨Nat.le_refl _, Nat.le_refl _⟩ (qc0 (a_odds_f (fun z => b2_eq h19 ((wC (by decide) (by decide)).mpr z.2.2.1))).symm)
      · refine j_iload_n C (D 11 rfl) rfl ?_
        refine j_ldc_w C (v := 2147483647) (D 12 rfl) n_X11_287 ?_
        refine j_iload_n C (D 13 rfl) rfl ?_
        refine j_isub C (D 14 rfl) ?_
        refine j_icmp_le C  34 (D 15 rfl) (by decide) (fun h28 => ?_) (fun h28 => ?_)
        · have hsn : s.toInt + n.toInt ≤ 2147483647 := (odC ((wC (by decide) (by decide)).mp (b2_ne h19))).mp h28
          have hwn : wi 1 40 n := ((wC (by decide) (by decide)).mp (b2_ne h19))
          obtain ⟨a, ha, rfl⟩ := inR_n (b2_ne h5)
          have ha8 : a < 8 := by omega
          obtain ⟨s, hs9, rfl, _⟩ := i_nat (a := s) (by rw [i_lt, i0] at h9; omega)
          obtain ⟨n, hn1, hn40, rfl⟩ := wi_n (a := 1) (b := 40) hwn
          rw [nI_int (by omega), nI_int (by omega)] at hsn
          refine j_iconst C (v := nI 0) (D 18 rfl) rfl ?_
          refine j_istore C (D 19 rfl) rfl ?_
          refine j_iconst C (v := nI 0) (D 20 rfl) rfl ?_
          refine j_istore C (D 21 rfl) rfl ?_
          have Lp : ∀ (m i : Nat) (I1 : Nat → Nat → Int32) (L1 : Nat → Nat → Int64), i + m = n → FrS I I1 → J Z (0, 0) 40 [some (.ref (ra G 0)), some (.int (nI s)), some (.int (nI n)), some (.int (nI a)), some (.int (nI (cnt (fun i => decide (rkS V (ptM V (drS V (s + i))) (gM (drS V (s + i))) a = 0)) i))), some (.int (nI i))] [] (wd I1 L1 R) := by
            intro m
            induction m with
            | zero =>
              intro i I1 L1 hi hF
              refine j_iload C (D 22 rfl) rfl ?_
              refine j_iload_n C (D 23 rfl) rfl ?_
              refine j_icmp_ge C  77 (D 24 rfl) (by decide) (fun h43 => ?_) (fun h43 => absurd h43 (fun z => z ((nle (by omega) (by omega)).mpr (by omega))))
              refine j_iload C (D 41 rfl) rfl ?_
              exact j_iret C P rfl (D 42 rfl) ⟨Nat.le_refl _, Nat.le_refl _⟩ (qc1 hF (by rw [a_odds_t ⟨(b2_ne h5), (by rw [i_lt, i0] at h9; omega), ((wC (by decide) (by decide)).mp (b2_ne h19)), ((odC ((wC (by decide) (by decide)).mp (b2_ne h19))).mp h28)⟩, tn_n (by omega), tn_n (by omega), tn_n (by omega), show n = i by omega]))
            | succ m ih =>
              intro i I1 L1 hi hF
              refine j_iload C (D 22 rfl) rfl ?_
              refine j_iload_n C (D 23 rfl) rfl ?_
              refine j_icmp_ge C  77 (D 24 rfl) (by decide) (fun h43 => absurd h43 (fun z => by rw [nle (by omega) (by omega)] at z; omega)) (fun h43 => ?_)
              refine j_iload C (D 25 rfl) rfl ?_
              refine j_aload_n C (D 26 rfl) rfl ?_
              refine j_iload_n C (D 27 rfl) rfl ?_
              refine j_iload C (D 28 rfl) rfl ?_
              refine j_iadd C (D 29 rfl) ?_
              rw [nI_add]
              refine j_callV C B k_X11_283 (rc_obj C (lit (kd := 11) (n := 12) rfl) rfl rfl) (c_stBy _ _ hc hL hr5 hV (CT_fr hc hT hF hV.1) (s + i) (by omega)) rfl rfl rfl rfl ⟨Nat.le_refl _, Nat.le_refl _⟩ (D 30 rfl) ?_
              rintro r w' ⟨rfl, I2, L9, rfl, hF2, k0, kP, kF⟩
              have hz := pza_M hV (drS V (s + i))
              refine j_iload_n C (D 31 rfl) rfl ?_
              refine j_cVp C B k_X11_230 (rc_obj C (lit (kd := 8) (n := 6) rfl) rfl rfl) (c_placeOf _ _ hL hV hz k0 kP kF a ha) rfl rfl rfl rfl ⟨Nat.le_refl _, Nat.le_refl _⟩ (D 32 rfl) ?_
              refine j_if_ne C  67 (D 33 rfl) (by decide) (fun h60 => ?_) (fun h60 => ?_)
              · refine j_iconst C (v := nI 0) (D 36 rfl) rfl ?_
                refine j_iadd C (D 37 rfl) ?_
                rw [nI_add]
                refine j_istore C (D 38 rfl) rfl ?_
                first | refine j_iinc1 C (D 39 rfl) rfl rfl ?_ | refine j_iinc C (D 39 rfl) rfl rfl rfl ?_
                refine j_goto C 40 (D 40 rfl) (by decide) ?_
                have hi0 : ¬ (fun i => decide (rkS V (ptM V (drS V (s + i))) (gM (drS V (s + i))) a = 0)) i = true := fun z => h60 (by rw [of_decide_eq_true z]; rfl)
                have hq := ih (i + 1) I2 L9 (by omega) (hF.tr hF2)
                rw [cnt, if_neg hi0] at hq
                exact hq
              · refine j_iconst C (v := nI 1) (D 34 rfl) rfl ?_
                refine j_goto C 68 (D 35 rfl) (by decide) ?_
                refine j_iadd C (D 37 rfl) ?_
                rw [nI_add]
                refine j_istore C (D 38 rfl) rfl ?_
                first | refine j_iinc1 C (D 39 rfl) rfl rfl ?_ | refine j_iinc C (D 39 rfl) rfl rfl rfl ?_
                refine j_goto C 40 (D 40 rfl) (by decide) ?_
                have hi0 : (fun i => decide (rkS V (ptM V (drS V (s + i))) (gM (drS V (s + i))) a = 0)) i = true := decide_eq_true (nI_inj (by have := cnt_le (fun b => !decide (b = a) && ahS V (ptM V (drS V (s + i))) (gM (drS V (s + i))) b a) (vA V); unfold rkS; omega) (by decide) h60)
                have hq := ih (i + 1) I2 L9 (by omega) (hF.tr hF2)
                rw [cnt, if_pos hi0] at hq
                exact hq
          exact Lp n 0 _ _ (by omega) (FrS.rf I)
        · refine j_bipush C (v := (-2)) (D 16 rfl) rfl ?_
          exact j_iret C P rfl (D 17 rfl) ⟨Nat.le_refl _, Nat.le_refl _⟩ (qc0 (a_odds_f (fun z => h28 ((odC ((wC (by decide) (by decide)).mp (b2_ne h19))).mpr z.2.2.2))).symm)
set_option maxRecDepth 20000 in
theorem d_oddsQ (l : Launch) (G : GT) {I : Nat → Nat → Int32} {L : Nat → Nat → Int64} {R : Nat → Nat → Option Nat} (hL : Lay R) {V : VT} (hV : WV V) (hM : MT I V) (ld : Bool) (hld : I 172 1 = b2 (ld = true)) (s n a : Int32) : Mt l G mX12_odds (9) 0 0 [.ref (ra G 172), .int s, .int n, .int a] (wd I L R) (qM (a_odds V ld s n a) I R) := by
  refine mt_of (own := RX12) (by decide) rfl rfl (fun Z C P B => ?_)
  have D := @dc_of _ _ dX12_odds
  have hE10 := hV.1
  have hA8 := hV.2.1
  refine j_iload_n C (D 0 rfl) rfl ?_
  refine j_if_lt C  36 (D 1 rfl) (by decide) (fun h1 => ?_) (fun h1 => ?_)
  · refine j_bipush C (v := (-2)) (D 20 rfl) rfl ?_
    exact j_iret C P rfl (D 21 rfl) ⟨Nat.le_refl _, Nat.le_refl _⟩ (qm0 (a_odds_f (fun z => absurd (i_lt.mp h1) (by rw [i0]; have := z.2.1; omega))).symm)
  · refine j_iload_n C (D 2 rfl) rfl ?_
    refine j_i2l C (D 3 rfl) ?_
    refine j_lconst C (v := 1) (D 4 rfl) rfl ?_
    refine j_ldc2_w C (v := 40) (D 5 rfl) n_X12_481 ?_
    refine j_cSp C B k_X12_99 (d_in _ _ _ _ _ _) rfl rfl rfl rfl ⟨Nat.le_refl _, Nat.le_refl _⟩ (D 6 rfl) ?_
    refine j_if_eq C  36 (D 7 rfl) (by decide) (fun h13 => ?_) (fun h13 => ?_)
    · refine j_bipush C (v := (-2)) (D 20 rfl) rfl ?_
      exact j_iret C P rfl (D 21 rfl) ⟨Nat.le_refl _, Nat.le_refl _⟩ (qm0 (a_odds_f (fun z => b2_eq h13 ((wL (by decide) (by decide)).mpr z.2.2.1))).symm)
    · refine j_iload_n C (D 8 rfl) rfl ?_
      refine j_i2l C (D 9 rfl) ?_
      refine j_iload_n C (D 10 rfl) rfl ?_
      refine j_i2l C (D 11 rfl) ?_
      refine j_ladd C (D 12 rfl) ?_
      refine j_ldc2_w C (v := 2147483647) (D 13 rfl) n_X12_483 ?_
      refine j_lcmp C (D 14 rfl) ?_
      refine j_if_gt C  36 (D 15 rfl) (by decide) (fun h25 => ?_) (fun h25 => ?_)
      · refine j_bipush C (v := (-2)) (D 20 rfl) rfl ?_
        exact j_iret C P rfl (D 21 rfl) ⟨Nat.le_refl _, Nat.le_refl _⟩ (qm0 (a_odds_f (fun z => (odM (by decide)).mp h25 z.2.2.2)).symm)
      · refine j_aload_n C (D 16 rfl) rfl ?_
        refine j_iload_n C (D 17 rfl) rfl ?_
        refine j_cVp C B k_X12_317 (rc_obj C (lit (kd := 12) (n := 48) rfl) rfl rfl) (d_isOne _ _ hL (vA V) hM.2.1 (by omega) _) rfl rfl rfl rfl ⟨Nat.le_refl _, Nat.le_refl _⟩ (D 18 rfl) ?_
        refine j_if_ne C  39 (D 19 rfl) (by decide) (fun h33 => ?_) (fun h33 => ?_)
        · have hsn : s.toInt + n.toInt ≤ 2147483647 := Int.not_lt.mp (fun z => h25 ((odM (by decide)).mpr (by omega)))
          have hwn : wi 1 40 n := ((wL (by decide) (by decide)).mp (b2_ne h13))
          obtain ⟨a, ha, rfl⟩ := inR_n (b2_ne h33)
          have ha8 : a < 8 := by omega
          obtain ⟨s, hs9, rfl, _⟩ := i_nat (a := s) (by rw [i_lt, i0] at h1; omega)
          obtain ⟨n, hn1, hn40, rfl⟩ := wi_n (a := 1) (b := 40) hwn
          rw [nI_int (by omega), nI_int (by omega)] at hsn
          refine j_iconst C (v := nI 0) (D 22 rfl) rfl ?_
          refine j_istore C (D 23 rfl) rfl ?_
          refine j_iconst C (v := nI 0) (D 24 rfl) rfl ?_
          refine j_istore C (D 25 rfl) rfl ?_
          have Lp : ∀ (m i : Nat) (I1 : Nat → Nat → Int32) (L1 : Nat → Nat → Int64), i + m = n → FrM I I1 → J Z (0, 0) 45 [some (.ref (ra G 172)), some (.int (nI s)), some (.int (nI n)), some (.int (nI a)), some (.int (nI (cnt (fun i => decide (rkS V (ptM V (drS V (s + i))) (gM (drS V (s + i))) a = 0)) i))), some (.int (nI i))] [] (wd I1 L1 R) := by
            intro m
            induction m with
            | zero =>
              intro i I1 L1 hi hF
              refine j_iload C (D 26 rfl) rfl ?_
              refine j_iload_n C (D 27 rfl) rfl ?_
              refine j_icmp_ge C  84 (D 28 rfl) (by decide) (fun h48 => ?_) (fun h48 => absurd h48 (fun z => z ((nle (by omega) (by omega)).mpr (by omega))))
              refine j_iload C (D 47 rfl) rfl ?_
              exact j_iret C P rfl (D 48 rfl) ⟨Nat.le_refl _, Nat.le_refl _⟩ (qm1 hF (by rw [a_odds_t ⟨(b2_ne h33), (by rw [i_lt, i0] at h1; omega), ((wL (by decide) (by decide)).mp (b2_ne h13)), (Int.not_lt.mp (fun z => h25 ((odM (by decide)).mpr (by omega))))⟩, tn_n (by omega), tn_n (by omega), tn_n (by omega), show n = i by omega]))
            | succ m ih =>
              intro i I1 L1 hi hF
              refine j_iload C (D 26 rfl) rfl ?_
              refine j_iload_n C (D 27 rfl) rfl ?_
              refine j_icmp_ge C  84 (D 28 rfl) (by decide) (fun h48 => absurd h48 (fun z => by rw [nle (by omega) (by omega)] at z; omega)) (fun h48 => ?_)
              refine j_aload_n C (D 29 rfl) rfl ?_
              refine j_iload_n C (D 30 rfl) rfl ?_
              refine j_iload C (D 31 rfl) rfl ?_
              refine j_iadd C (D 32 rfl) ?_
              rw [nI_add]
              refine j_i2l C (D 33 rfl) ?_
              rw [nI_toL (by omega)]
              refine j_callV C B k_X12_477 (rc_obj C (lit (kd := 12) (n := 48) rfl) rfl rfl) (d_meets _ _ hL hV (MT_fr hM hF) (s + i) (by omega)) rfl rfl rfl rfl ⟨Nat.le_refl _, Nat.le_refl _⟩ (D 34 rfl) ?_
              rintro r w' ⟨rfl, I2, L2, rfl, hF2, hl⟩
              have hM2 := MT_fr (MT_fr hM hF) hF2
              have hz := pza_M hV (drS V (s + i))
              refine j_iload C (D 35 rfl) rfl ?_
              refine j_aload_n C (D 36 rfl) rfl ?_
              refine j_iload_n C (D 37 rfl) rfl ?_
              refine j_callV C B k_X12_404 (rc_obj C (lit (kd := 12) (n := 48) rfl) rfl rfl) (d_rankOf _ _ hL hV hM2 hz hl a ha) rfl rfl rfl rfl ⟨Nat.le_refl _, Nat.le_refl _⟩ (D 38 rfl) ?_
              rintro r w' ⟨rfl, L9, rfl⟩
              refine j_if_ne C  74 (D 39 rfl) (by decide) (fun h67 => ?_) (fun h67 => ?_)
              · refine j_iconst C (v := nI 0) (D 42 rfl) rfl ?_
                refine j_iadd C (D 43 rfl) ?_
                rw [nI_add]
                refine j_istore C (D 44 rfl) rfl ?_
                first | refine j_iinc1 C (D 45 rfl) rfl rfl ?_ | refine j_iinc C (D 45 rfl) rfl rfl rfl ?_
                refine j_goto C 45 (D 46 rfl) (by decide) ?_
                have hi0 : ¬ (fun i => decide (rkS V (ptM V (drS V (s + i))) (gM (drS V (s + i))) a = 0)) i = true := fun z => h67 (by rw [of_decide_eq_true z]; rfl)
                have hq := ih (i + 1) I2 L9 (by omega) (hF.tr hF2)
                rw [cnt, if_neg hi0] at hq
                exact hq
              · refine j_iconst C (v := nI 1) (D 40 rfl) rfl ?_
                refine j_goto C 75 (D 41 rfl) (by decide) ?_
                refine j_iadd C (D 43 rfl) ?_
                rw [nI_add]
                refine j_istore C (D 44 rfl) rfl ?_
                first | refine j_iinc1 C (D 45 rfl) rfl rfl ?_ | refine j_iinc C (D 45 rfl) rfl rfl rfl ?_
                refine j_goto C 45 (D 46 rfl) (by decide) ?_
                have hi0 : (fun i => decide (rkS V (ptM V (drS V (s + i))) (gM (drS V (s + i))) a = 0)) i = true := decide_eq_true (nI_inj (by have := cnt_le (fun b => !decide (b = a) && ahS V (ptM V (drS V (s + i))) (gM (drS V (s + i))) b a) (vA V); unfold rkS; omega) (by decide) h67)
                have hq := ih (i + 1) I2 L9 (by omega) (hF.tr hF2)
                rw [cnt, if_pos hi0] at hq
                exact hq
          exact Lp n 0 _ _ (by omega) (FrM.rf I)
        · refine j_bipush C (v := (-2)) (D 20 rfl) rfl ?_
          exact j_iret C P rfl (D 21 rfl) ⟨Nat.le_refl _, Nat.le_refl _⟩ (qm0 (a_odds_f (fun z => b2_eq h33 z.1)).symm)
def a_team (V : VT) (ld : Bool) (s : Int32) : Int32 := if ld = true ∧ wi 0 ((2 ^ vA V : Nat) - 1) s then sumN (tmS V s) (vA V) else -2
theorem a_team_t {V : VT} {ld : Bool} {s : Int32} (hX : ld = true ∧ wi 0 ((2 ^ vA V : Nat) - 1) s) : a_team V ld s = sumN (tmS V s) (vA V) := if_pos hX
theorem a_team_f {V : VT} {ld : Bool} {s : Int32} (hX : ¬ (ld = true ∧ wi 0 ((2 ^ vA V : Nat) - 1) s)) : a_team V ld s = -2 := if_neg hX
set_option maxRecDepth 20000 in
theorem c_teamQ (l : Launch) (G : GT) {c : Nat} (hc : isC c) {I : Nat → Nat → Int32} {L : Nat → Nat → Int64} {R : Nat → Nat → Option Nat} (hL : Lay R) (hr5 : R 0 5 = some c) {V : VT} (hV : WV V) (hT : CT I c V) (ld : Bool) (hld : I 0 6 = b2 (ld = true)) (s : Int32) : Mt l G mX11_team (6) 0 0 [.ref (ra G 0), .int s] (wd I L R) (qC (a_team V ld s) I R) := by
  refine mt_of (own := RX11) (by decide) rfl rfl (fun Z C P B => ?_)
  have D := @dc_of _ _ dX11_team
  have hE10 := hV.1
  have hA8 := hV.2.1
  refine j_aload_n C (D 0 rfl) rfl ?_
  refine j_geti C f_X11_85 (lit (kd := 11) (n := 12) rfl) rfl rfl (D 1 rfl) ?_
  rw [hld]
  refine j_if_eq C  19 (D 2 rfl) (by decide) (fun h4 => ?_) (fun h4 => ?_)
  · refine j_bipush C (v := (-2)) (D 9 rfl) rfl ?_
    exact j_iret C P rfl (D 10 rfl) ⟨Nat.le_refl _, Nat.le_refl _⟩ (qc0 (a_team_f (fun z => b2_eq h4 z.1)).symm)
  · refine j_iload_n C (D 3 rfl) rfl ?_
    refine j_aload_n C (D 4 rfl) rfl ?_
    refine j_getr C f_X11_37 (lit (kd := 11) (n := 12) rfl) rfl rfl hr5 (D 5 rfl) ?_
    refine j_geti C f_X11_101 (sC0 hc) rfl rfl (D 6 rfl) ?_
    rw [hT.2.1]
    refine j_ishr C (D 7 rfl) ?_
    refine j_if_eq C  22 (D 8 rfl) (by decide) (fun h16 => ?_) (fun h16 => ?_)
    · refine j_aload_n C (D 11 rfl) rfl ?_
      refine j_callV C B k_X11_187 (rc_obj C (lit (kd := 11) (n := 12) rfl) rfl rfl) (c_stNow _ _ hc hL hr5 hV hT) rfl rfl rfl rfl ⟨Nat.le_refl _, Nat.le_refl _⟩ (D 12 rfl) ?_
      rintro r w' ⟨rfl, I2, rfl, hF2, k0, kP, kF⟩
      have hT2 := CT_fr hc hT (hF2.S hc) hV.1
      have hz := pza_M hV (vmk V)
      refine j_astore_n C (D 13 rfl) rfl ?_
      refine j_iconst C (v := nI 0) (D 14 rfl) rfl ?_
      refine j_istore_n C (D 15 rfl) rfl ?_
      refine j_iconst C (v := nI 0) (D 16 rfl) rfl ?_
      refine j_istore C (D 17 rfl) rfl ?_
      have Lp : ∀ (m a : Nat), a + m = vA V → J Z (0, 0) 32 [some (.ref (ra G 0)), some (.int s), some (.ref (ra G 98)), some (.int (sumN (tmS V s) a)), some (.int (nI a))] [] (wd I2 L R) := by
        intro m
        induction m with
        | zero =>
          intro a ha
          refine j_iload C (D 18 rfl) rfl ?_
          refine j_aload_n C (D 19 rfl) rfl ?_
          refine j_getr C f_X11_37 (lit (kd := 11) (n := 12) rfl) rfl rfl hr5 (D 20 rfl) ?_
          refine j_geti C f_X11_101 (sC0 hc) rfl rfl (D 21 rfl) ?_
          rw [hT2.2.1]
          refine j_icmp_ge C  73 (D 22 rfl) (by decide) (fun h41 => ?_) (fun h41 => absurd h41 (fun z => z ((nle (by omega) (by omega)).mpr (by omega))))
          refine j_iload_n C (D 40 rfl) rfl ?_
          exact j_iret C P rfl (D 41 rfl) ⟨Nat.le_refl _, Nat.le_refl _⟩ (qc1 (hF2.S hc) (by rw [a_team_t ⟨(b2_ne h4), ((shr_0 _ (by omega)).mp h16)⟩, show vA V = a by omega]))
        | succ m ih =>
          intro a ha
          refine j_iload C (D 18 rfl) rfl ?_
          refine j_aload_n C (D 19 rfl) rfl ?_
          refine j_getr C f_X11_37 (lit (kd := 11) (n := 12) rfl) rfl rfl hr5 (D 20 rfl) ?_
          refine j_geti C f_X11_101 (sC0 hc) rfl rfl (D 21 rfl) ?_
          rw [hT2.2.1]
          refine j_icmp_ge C  73 (D 22 rfl) (by decide) (fun h41 => absurd h41 (fun z => by rw [nle (by omega) (by omega)] at z; omega)) (fun h41 => ?_)
          refine j_iload_n C (D 23 rfl) rfl ?_
          refine j_iload_n C (D 24 rfl) rfl ?_
          refine j_iload C (D 25 rfl) rfl ?_
          refine j_ishr C (D 26 rfl) ?_
          refine j_iconst C (v := nI 1) (D 27 rfl) rfl ?_
          refine j_iand C (D 28 rfl) ?_
          refine j_iconst C (v := nI 1) (D 29 rfl) rfl ?_
          refine j_icmp_ne C  64 (D 30 rfl) (by decide) (fun h52 => ?_) (fun h52 => ?_)
          · refine j_iconst C (v := nI 0) (D 35 rfl) rfl ?_
            refine j_iadd C (D 36 rfl) ?_
            refine j_istore_n C (D 37 rfl) rfl ?_
            first | refine j_iinc1 C (D 38 rfl) rfl rfl ?_ | refine j_iinc C (D 38 rfl) rfl rfl rfl ?_
            refine j_goto C 32 (D 39 rfl) (by decide) ?_
            have hq := ih (a + 1) (by omega)
            rw [sumN, tmS, if_neg h52] at hq
            exact hq
          · refine j_aload_n C (D 31 rfl) rfl ?_
            refine j_iload C (D 32 rfl) rfl ?_
            refine j_cVp C B k_X11_252 (rc_obj C (lit (kd := 8) (n := 6) rfl) rfl rfl) (c_totalOf _ _ hL hV hz k0 kP a (by omega)) rfl rfl rfl rfl ⟨Nat.le_refl _, Nat.le_refl _⟩ (D 33 rfl) ?_
            refine j_goto C 65 (D 34 rfl) (by decide) ?_
            refine j_iadd C (D 36 rfl) ?_
            refine j_istore_n C (D 37 rfl) rfl ?_
            first | refine j_iinc1 C (D 38 rfl) rfl rfl ?_ | refine j_iinc C (D 38 rfl) rfl rfl rfl ?_
            refine j_goto C 32 (D 39 rfl) (by decide) ?_
            have hq := ih (a + 1) (by omega)
            rw [sumN, tmS, if_pos h52] at hq
            exact hq
      exact Lp (vA V) 0 (by omega)
    · refine j_bipush C (v := (-2)) (D 9 rfl) rfl ?_
      exact j_iret C P rfl (D 10 rfl) ⟨Nat.le_refl _, Nat.le_refl _⟩ (qc0 (a_team_f (fun z => h16 ((shr_0 _ (by omega)).mpr z.2))).symm)
set_option maxRecDepth 20000 in
theorem d_teamQ (l : Launch) (G : GT) {I : Nat → Nat → Int32} {L : Nat → Nat → Int64} {R : Nat → Nat → Option Nat} (hL : Lay R) {V : VT} (hV : WV V) (hM : MT I V) (ld : Bool) (hld : I 172 1 = b2 (ld = true)) (s : Int32) : Mt l G mX12_team (9) 0 0 [.ref (ra G 172), .int s] (wd I L R) (qM (a_team V ld s) I R) := by
  refine mt_of (own := RX12) (by decide) rfl rfl (fun Z C P B => ?_)
  have D := @dc_of _ _ dX12_team
  have hE10 := hV.1
  have hA8 := hV.2.1
  refine j_aload_n C (D 0 rfl) rfl ?_
  refine j_geti C f_X12_297 (lit (kd := 12) (n := 48) rfl) rfl rfl (D 1 rfl) ?_
  rw [hld]
  refine j_if_eq C  25 (D 2 rfl) (by decide) (fun h4 => ?_) (fun h4 => ?_)
  · refine j_bipush C (v := (-2)) (D 15 rfl) rfl ?_
    exact j_iret C P rfl (D 16 rfl) ⟨Nat.le_refl _, Nat.le_refl _⟩ (qm0 (a_team_f (fun z => b2_eq h4 z.1)).symm)
  · refine j_iload_n C (D 3 rfl) rfl ?_
    refine j_i2l C (D 4 rfl) ?_
    refine j_lconst C (v := 0) (D 5 rfl) rfl ?_
    refine j_iconst C (v := nI 1) (D 6 rfl) rfl ?_
    refine j_aload_n C (D 7 rfl) rfl ?_
    refine j_geti C f_X12_303 (lit (kd := 12) (n := 48) rfl) rfl rfl (D 8 rfl) ?_
    rw [hM.2.1]
    refine j_ishl C (D 9 rfl) ?_
    refine j_iconst C (v := nI 1) (D 10 rfl) rfl ?_
    refine j_isub C (D 11 rfl) ?_
    refine j_i2l C (D 12 rfl) ?_
    refine j_cSp C B k_X12_99 (d_in _ _ _ _ _ _) rfl rfl rfl rfl ⟨Nat.le_refl _, Nat.le_refl _⟩ (D 13 rfl) ?_
    refine j_if_ne C  28 (D 14 rfl) (by decide) (fun h22 => ?_) (fun h22 => ?_)
    · refine j_aload_n C (D 17 rfl) rfl ?_
      refine j_aload_n C (D 18 rfl) rfl ?_
      refine j_getr C f_X12_22 (lit (kd := 12) (n := 48) rfl) rfl rfl (hL _ _ _ rfl) (D 19 rfl) ?_
      refine j_callV C B k_X12_410 (rc_obj C (lit (kd := 12) (n := 48) rfl) rfl rfl) (d_lays _ _ hL hV hM 177 (vmk V) (lit (kd := 20) (n := 80) rfl) (Or.inl rfl) (fun b e hb he => ⟨(hM.2.2.2.2.2.1 b e hb (by omega)).1, (hV.2.2.2.2.2.1 b e hb (by omega)).1⟩)) rfl rfl rfl rfl ⟨Nat.le_refl _, Nat.le_refl _⟩ (D 20 rfl) ?_
      rintro r w' ⟨rfl, I2, rfl, hF2, hl⟩
      have hM2 := MT_fr hM hF2.M
      have hz := pza_M hV (vmk V)
      refine j_iconst C (v := nI 0) (D 21 rfl) rfl ?_
      refine j_istore_n C (D 22 rfl) rfl ?_
      refine j_iconst C (v := nI 0) (D 23 rfl) rfl ?_
      refine j_istore_n C (D 24 rfl) rfl ?_
      have Lp : ∀ (m a : Nat) (L1 : Nat → Nat → Int64), a + m = vA V → J Z (0, 0) 40 [some (.ref (ra G 172)), some (.int s), some (.int (sumN (tmS V s) a)), some (.int (nI a))] [] (wd I2 L1 R) := by
        intro m
        induction m with
        | zero =>
          intro a L1 ha
          refine j_iload_n C (D 25 rfl) rfl ?_
          refine j_aload_n C (D 26 rfl) rfl ?_
          refine j_geti C f_X12_303 (lit (kd := 12) (n := 48) rfl) rfl rfl (D 27 rfl) ?_
          rw [hM2.2.1]
          refine j_icmp_ge C  75 (D 28 rfl) (by decide) (fun h45 => ?_) (fun h45 => absurd h45 (fun z => z ((nle (by omega) (by omega)).mpr (by omega))))
          refine j_iload_n C (D 46 rfl) rfl ?_
          exact j_iret C P rfl (D 47 rfl) ⟨Nat.le_refl _, Nat.le_refl _⟩ (qm1 hF2.M (by rw [a_team_t ⟨(b2_ne h4), ((wL (by decide) ((i_l _).trans (shl_1 (by omega)))).mp (b2_ne h22))⟩, show vA V = a by omega]))
        | succ m ih =>
          intro a L1 ha
          refine j_iload_n C (D 25 rfl) rfl ?_
          refine j_aload_n C (D 26 rfl) rfl ?_
          refine j_geti C f_X12_303 (lit (kd := 12) (n := 48) rfl) rfl rfl (D 27 rfl) ?_
          rw [hM2.2.1]
          refine j_icmp_ge C  75 (D 28 rfl) (by decide) (fun h45 => absurd h45 (fun z => by rw [nle (by omega) (by omega)] at z; omega)) (fun h45 => ?_)
          refine j_iload_n C (D 29 rfl) rfl ?_
          refine j_iload_n C (D 30 rfl) rfl ?_
          refine j_iload_n C (D 31 rfl) rfl ?_
          refine j_ishr C (D 32 rfl) ?_
          refine j_iconst C (v := nI 1) (D 33 rfl) rfl ?_
          refine j_iand C (D 34 rfl) ?_
          refine j_iconst C (v := nI 1) (D 35 rfl) rfl ?_
          refine j_icmp_ne C  66 (D 36 rfl) (by decide) (fun h55 => ?_) (fun h55 => ?_)
          · refine j_iconst C (v := nI 0) (D 41 rfl) rfl ?_
            refine j_iadd C (D 42 rfl) ?_
            refine j_istore_n C (D 43 rfl) rfl ?_
            first | refine j_iinc1 C (D 44 rfl) rfl rfl ?_ | refine j_iinc C (D 44 rfl) rfl rfl rfl ?_
            refine j_goto C 40 (D 45 rfl) (by decide) ?_
            have hq := ih (a + 1) L1 (by omega)
            rw [sumN, tmS, if_neg h55] at hq
            exact hq
          · refine j_aload_n C (D 37 rfl) rfl ?_
            refine j_iload_n C (D 38 rfl) rfl ?_
            refine j_callV C B k_X12_395 (rc_obj C (lit (kd := 12) (n := 48) rfl) rfl rfl) (d_totalOf _ _ hL hV hM2 hz hl a (by omega)) rfl rfl rfl rfl ⟨Nat.le_refl _, Nat.le_refl _⟩ (D 39 rfl) ?_
            rintro r w' ⟨rfl, L9, rfl⟩
            refine j_goto C 67 (D 40 rfl) (by decide) ?_
            refine j_iadd C (D 42 rfl) ?_
            refine j_istore_n C (D 43 rfl) rfl ?_
            first | refine j_iinc1 C (D 44 rfl) rfl rfl ?_ | refine j_iinc C (D 44 rfl) rfl rfl rfl ?_
            refine j_goto C 40 (D 45 rfl) (by decide) ?_
            have hq := ih (a + 1) L9 (by omega)
            rw [sumN, tmS, if_pos h55] at hq
            exact hq
      exact Lp (vA V) 0 _ (by omega)
    · refine j_bipush C (v := (-2)) (D 15 rfl) rfl ?_
      exact j_iret C P rfl (D 16 rfl) ⟨Nat.le_refl _, Nat.le_refl _⟩ (qm0 (a_team_f (fun z => b2_eq h22 ((wL (by decide) ((i_l _).trans (shl_1 (by omega)))).mpr z.2))).symm)

/-! CONTEST -/
def trS (E : Nat → Int32) (mk go gi : Int32) (h : Nat) : Int32 := if mk = -1 ∨ go = -1 then mk else bbS E mk (Int32.ofInt (go.toInt * h / (h + gi.toInt)))
theorem bb_rng {E : Nat → Int32} {m b : Int32} (h0 : 0 ≤ m.toInt ∧ m.toInt ≤ 99999) (h1 : 0 ≤ b.toInt ∧ b.toInt ≤ 99999) : 0 ≤ (bbS E m b).toInt ∧ (bbS E m b).toInt ≤ 99999 := by
  have e1 : (m + b).toInt = m.toInt + b.toInt := i_add (by omega) (by omega)
  have e2 : (m - b).toInt = m.toInt - b.toInt := i_sub (by omega) (by omega)
  unfold bbS
  by_cases c : E 0 = 1
  · rw [if_pos c]
    by_cases q : m + b < 99999
    · rw [if_pos q, e1]; rw [i_lt, e1, i99] at q; omega
    · rw [if_neg q, i99]; omega
  · rw [if_neg c]
    by_cases q : 0 < m - b
    · rw [if_pos q, e2]; rw [i_lt, e2, i0] at q; omega
    · rw [if_neg q, i0]; omega
theorem gain_rng {g hh : Int} {h : Nat} (hg : 0 ≤ g ∧ g ≤ 99999) (h1 : 1 ≤ hh) : 0 ≤ g * h / (h + hh) ∧ g * h / (h + hh) ≤ 99999 := by
  have p0 : 0 ≤ g * (h : Int) := Int.mul_nonneg hg.1 (by omega)
  refine ⟨dvn p0 (by omega), ?_⟩
  apply Int.ediv_le_of_le_mul (by omega)
  have a1 : g * (h : Int) ≤ 99999 * (h : Int) := Int.mul_le_mul_of_nonneg_right hg.2 (by omega)
  have a2 : 99999 * ((h : Int) + hh) = 99999 * (h : Int) + 99999 * hh := by rw [Int.mul_add]
  omega
theorem trS_ok {E : Nat → Int32} {mk go gi : Int32} (h1 : okM mk) (h2 : okG go gi) (h : Nat) : okM (trS E mk go gi h) := by
  unfold trS
  by_cases c : mk = -1 ∨ go = -1
  · rw [if_pos c]; exact h1
  · rw [if_neg c]
    have hg := h2.resolve_left (fun z => c (Or.inr z.1))
    have q := gain_rng (h := h) hg.1 hg.2.1
    exact Or.inr (bb_rng (h1.resolve_left (fun z => c (Or.inl z))) (by rw [ofI (by omega) (by omega)]; exact q))
theorem gain_i {g gi : Int32} {h : Nat} (h1 : 0 ≤ g.toInt ∧ g.toInt ≤ 99999) (h2 : 1 ≤ gi.toInt ∧ gi.toInt ≤ 999) (hh : h ≤ 999) : Int32.ofInt (g.toInt * h / (h + gi.toInt)) = g * nI h / (nI h + gi) := by
  have eh : (nI h).toInt = h := nI_int (by omega)
  have esp : (nI h + gi).toInt = h + gi.toInt := by rw [i_add (by rw [eh]; omega) (by rw [eh]; omega), eh]
  have p0 : 0 ≤ g.toInt * (h : Int) := Int.mul_nonneg h1.1 (by omega)
  have p1 : g.toInt * (h : Int) ≤ 99999 * 999 := Int.mul_le_mul h1.2 (by omega) (by omega) (by omega)
  have em : (g * nI h).toInt = g.toInt * h := by rw [i_mul (by rw [eh]; omega) (by rw [eh]; omega), eh]
  exact (eq_ofI (by rw [i_div (by rw [em]; exact p0) (by rw [esp]; omega), em, esp])).symm
def betC (V : VT) (e a b : Nat) : Bool := !decide (vmk V b e = -1) && (betB (vev V e) (vmk V b e) (vmk V a e) || (decide (vmk V b e = vmk V a e) && decide (b < a)))
def cbS (V : VT) (e a : Nat) : Nat := cnt (betC V e a) (vA V)
def kthS (V : VT) (e : Nat) (k : Int32) : Int32 := fst1 (fun a => !decide (vmk V a e = -1) && decide (nI (cbS V e a) = k)) (vA V) 0
set_option maxRecDepth 20000 in
theorem c_markOf (l : Launch) (G : GT) {c : Nat} (hc : isC c) {I : Nat → Nat → Int32} {L : Nat → Nat → Int64} {R : Nat → Nat → Option Nat} (hL : Lay R) {V : VT} (hV : WV V) (hT : CT I c V) (a e : Nat) (ha : a < vA V) (he : e < 10) : Mt l G mX1_markOf (1) 0 0 [.ref (ra G c), .int (nI a), .int (nI e)] (wd I L R) (pV (.int (vmk V a e)) (wd I L R)) := by
  refine mt_of (own := RX1) (by decide) rfl rfl (fun Z C P B => ?_)
  have D := @dc_of _ _ dX1_markOf
  have ha8 : a < 8 := by have := hV.2.1; omega
  refine j_aload_n C (D 0 rfl) rfl ?_
  refine j_getr C f_X1_17 (sC0 hc) rfl rfl (hL _ _ _ (rC1 hc)) (D 1 rfl) ?_
  refine j_iload_n C (D 2 rfl) rfl ?_
  refine j_iload_n C (D 3 rfl) rfl ?_
  refine j_cSNp C B k_X1_48 (c_cellOf _ _ _ _ _) rfl rfl rfl rfl ⟨Nat.le_refl _, Nat.le_refl _⟩ (D 4 rfl) ?_
  refine j_iald C (sC2 hc) (ix_cell ha8 he) (D 5 rfl) ?_
  exact j_iret C P rfl (D 6 rfl) ⟨Nat.le_refl _, Nat.le_refl _⟩ (pv_i (hT.2.2.2.2.2.1 a e ha he).1)
set_option maxRecDepth 20000 in
theorem c_cvalueOf (l : Launch) (G : GT) {c : Nat} (hc : isC c) {I : Nat → Nat → Int32} {L : Nat → Nat → Int64} {R : Nat → Nat → Option Nat} (hL : Lay R) {V : VT} (hV : WV V) (hT : CT I c V) (a e : Nat) (ha : a < vA V) (he : e < vE V) : Mt l G mX1_valueOf (3) 0 0 [.ref (ra G c), .int (nI a), .int (nI e)] (wd I L R) (pV (.int (pts (vev V e) (vmk V a e))) (wd I L R)) := by
  refine mt_of (own := RX1) (by decide) rfl rfl (fun Z C P B => ?_)
  have D := @dc_of _ _ dX1_valueOf
  have he10 : e < 10 := by have := hV.1; omega
  have ha8 : a < 8 := by have := hV.2.1; omega
  refine j_aload_n C (D 0 rfl) rfl ?_
  refine j_getr C f_X1_11 (sC0 hc) rfl rfl (hL _ _ _ (rC0 hc)) (D 1 rfl) ?_
  refine j_iload_n C (D 2 rfl) rfl ?_
  refine j_aald C (kd := 1) (sC1 hc) rfl (ix_n he10 (by decide)) (hL _ _ _ (rCT hc he10)) (D 3 rfl) ?_
  refine j_aload_n C (D 4 rfl) rfl ?_
  refine j_iload_n C (D 5 rfl) rfl ?_
  refine j_iload_n C (D 6 rfl) rfl ?_
  refine j_cVp C B k_X1_52 (rc_obj C (sC0 hc) rfl rfl) (c_markOf _ _ hc hL hV hT a e ha he10) rfl rfl rfl rfl ⟨Nat.le_refl _, Nat.le_refl _⟩ (D 7 rfl) ?_
  refine j_cVp C B k_X1_55 (rc_obj C (sT0 (isT_of hc he10)) rfl rfl) (c_valueOf _ _ (isT_of hc he10) hL (hV.2.2.2.2.1 e he) (hT.2.2.2.2.1 e he) _ (hV.2.2.2.2.2.1 a e ha he10).1) rfl rfl rfl rfl ⟨Nat.le_refl _, Nat.le_refl _⟩ (D 8 rfl) ?_
  exact j_iret C P rfl (D 9 rfl) ⟨Nat.le_refl _, Nat.le_refl _⟩ (pv_i rfl)
set_option maxRecDepth 20000 in
theorem c_markAfter (l : Launch) (G : GT) {c : Nat} (hc : isC c) {I : Nat → Nat → Int32} {L : Nat → Nat → Int64} {R : Nat → Nat → Option Nat} (hL : Lay R) {V : VT} (hV : WV V) (hT : CT I c V) (a e h : Nat) (ha : a < vA V) (he : e < vE V) (hh : h ≤ 999) : Mt l G mX1_markAfter (2) 0 0 [.ref (ra G c), .int (nI a), .int (nI e), .int (nI h)] (wd I L R) (pV (.int (trS (vev V e) (vmk V a e) (vgo V a e) (vgi V a e) h)) (wd I L R)) := by
  refine mt_of (own := RX1) (by decide) rfl rfl (fun Z C P B => ?_)
  have D := @dc_of _ _ dX1_markAfter
  have he10 : e < 10 := by have := hV.1; omega
  have ha8 : a < 8 := by have := hV.2.1; omega
  obtain ⟨em, eg, eh⟩ := hT.2.2.2.2.2.1 a e ha he10
  obtain ⟨okm, okg⟩ := hV.2.2.2.2.2.1 a e ha he10
  refine j_iload_n C (D 0 rfl) rfl ?_
  refine j_iload_n C (D 1 rfl) rfl ?_
  refine j_cSNp C B k_X1_48 (c_cellOf _ _ _ _ _) rfl rfl rfl rfl ⟨Nat.le_refl _, Nat.le_refl _⟩ (D 2 rfl) ?_
  refine j_istore C (D 3 rfl) rfl ?_
  refine j_aload_n C (D 4 rfl) rfl ?_
  refine j_getr C f_X1_17 (sC0 hc) rfl rfl (hL _ _ _ (rC1 hc)) (D 5 rfl) ?_
  refine j_iload C (D 6 rfl) rfl ?_
  refine j_iald C (sC2 hc) (ix_cell ha8 he10) (D 7 rfl) ?_
  rw [em]
  refine j_istore C (D 8 rfl) rfl ?_
  refine j_iload_n C (D 9 rfl) rfl ?_
  refine j_aload_n C (D 10 rfl) rfl ?_
  refine j_getr C f_X1_24 (sC0 hc) rfl rfl (hL _ _ _ (rC3 hc)) (D 11 rfl) ?_
  refine j_iload C (D 12 rfl) rfl ?_
  refine j_iald C (sC4 hc) (ix_cell ha8 he10) (D 13 rfl) ?_
  rw [eh]
  refine j_iadd C (D 14 rfl) ?_
  refine j_istore C (D 15 rfl) rfl ?_
  refine j_iload C (D 16 rfl) rfl ?_
  refine j_iconst C (v := (-1)) (D 17 rfl) rfl ?_
  refine j_icmp_eq C  50 (D 18 rfl) (by decide) (fun h30 => ?_) (fun h30 => ?_)
  · refine j_iload C (D 28 rfl) rfl ?_
    exact j_iret C P rfl (D 29 rfl) ⟨Nat.le_refl _, Nat.le_refl _⟩ (pv_i (by rw [trS, if_pos (Or.inl h30)]))
  · refine j_aload_n C (D 19 rfl) rfl ?_
    refine j_getr C f_X1_21 (sC0 hc) rfl rfl (hL _ _ _ (rC2 hc)) (D 20 rfl) ?_
    refine j_iload C (D 21 rfl) rfl ?_
    refine j_iald C (sC3 hc) (ix_cell ha8 he10) (D 22 rfl) ?_
    rw [eg]
    refine j_iconst C (v := (-1)) (D 23 rfl) rfl ?_
    refine j_icmp_eq C  50 (D 24 rfl) (by decide) (fun h41 => ?_) (fun h41 => ?_)
    · refine j_iload C (D 28 rfl) rfl ?_
      exact j_iret C P rfl (D 29 rfl) ⟨Nat.le_refl _, Nat.le_refl _⟩ (pv_i (by rw [trS, if_pos (Or.inr h41)]))
    · have gg := okg.resolve_left (fun z => h41 z.1)
      have esp : (nI h + vgi V a e).toInt = h + (vgi V a e).toInt := by rw [i_add (by rw [nI_int (by omega)]; omega) (by rw [nI_int (by omega)]; omega), nI_int (by omega)]
      refine j_iload C (D 25 rfl) rfl ?_
      refine j_iconst C (v := nI 1) (D 26 rfl) rfl ?_
      refine j_icmp_ge C  53 (D 27 rfl) (by decide) (fun h47 => ?_) (fun h47 => absurd h47 (fun z => z (i_le.mpr (by rw [esp, nI_int (by decide)]; omega))))
      refine j_aload_n C (D 30 rfl) rfl ?_
      refine j_getr C f_X1_11 (sC0 hc) rfl rfl (hL _ _ _ (rC0 hc)) (D 31 rfl) ?_
      refine j_iload_n C (D 32 rfl) rfl ?_
      refine j_aald C (kd := 1) (sC1 hc) rfl (ix_n he10 (by decide)) (hL _ _ _ (rCT hc he10)) (D 33 rfl) ?_
      refine j_iload C (D 34 rfl) rfl ?_
      refine j_aload_n C (D 35 rfl) rfl ?_
      refine j_getr C f_X1_21 (sC0 hc) rfl rfl (hL _ _ _ (rC2 hc)) (D 36 rfl) ?_
      refine j_iload C (D 37 rfl) rfl ?_
      refine j_iald C (sC3 hc) (ix_cell ha8 he10) (D 38 rfl) ?_
      rw [eg]
      refine j_iload_n C (D 39 rfl) rfl ?_
      refine j_imul C (D 40 rfl) ?_
      refine j_iload C (D 41 rfl) rfl ?_
      refine j_idiv C (D 42 rfl) (ne0I (by rw [esp]; omega)) ?_
      refine j_cVp C B k_X1_59 (rc_obj C (sT0 (isT_of hc he10)) rfl rfl) (c_betterBy _ _ (isT_of hc he10) hL (hV.2.2.2.2.1 e he) (hT.2.2.2.2.1 e he) _ _) rfl rfl rfl rfl ⟨Nat.le_refl _, Nat.le_refl _⟩ (D 43 rfl) ?_
      exact j_iret C P rfl (D 44 rfl) ⟨Nat.le_refl _, Nat.le_refl _⟩ (pv_i (by rw [trS, if_neg (fun z => z.elim h30 h41), gain_i gg.1 gg.2 hh]))
set_option maxRecDepth 20000 in
theorem c_valueAfter (l : Launch) (G : GT) {c : Nat} (hc : isC c) {I : Nat → Nat → Int32} {L : Nat → Nat → Int64} {R : Nat → Nat → Option Nat} (hL : Lay R) {V : VT} (hV : WV V) (hT : CT I c V) (a e h : Nat) (ha : a < vA V) (he : e < vE V) (hh : h ≤ 999) : Mt l G mX1_valueAfter (3) 0 0 [.ref (ra G c), .int (nI a), .int (nI e), .int (nI h)] (wd I L R) (pV (.int (pts (vev V e) (trS (vev V e) (vmk V a e) (vgo V a e) (vgi V a e) h))) (wd I L R)) := by
  refine mt_of (own := RX1) (by decide) rfl rfl (fun Z C P B => ?_)
  have D := @dc_of _ _ dX1_valueAfter
  have he10 : e < 10 := by have := hV.1; omega
  have ha8 : a < 8 := by have := hV.2.1; omega
  refine j_aload_n C (D 0 rfl) rfl ?_
  refine j_getr C f_X1_11 (sC0 hc) rfl rfl (hL _ _ _ (rC0 hc)) (D 1 rfl) ?_
  refine j_iload_n C (D 2 rfl) rfl ?_
  refine j_aald C (kd := 1) (sC1 hc) rfl (ix_n he10 (by decide)) (hL _ _ _ (rCT hc he10)) (D 3 rfl) ?_
  refine j_aload_n C (D 4 rfl) rfl ?_
  refine j_iload_n C (D 5 rfl) rfl ?_
  refine j_iload_n C (D 6 rfl) rfl ?_
  refine j_iload_n C (D 7 rfl) rfl ?_
  refine j_cVp C B k_X1_62 (rc_obj C (sC0 hc) rfl rfl) (c_markAfter _ _ hc hL hV hT a e h ha he hh) rfl rfl rfl rfl ⟨Nat.le_refl _, Nat.le_refl _⟩ (D 8 rfl) ?_
  refine j_cVp C B k_X1_55 (rc_obj C (sT0 (isT_of hc he10)) rfl rfl) (c_valueOf _ _ (isT_of hc he10) hL (hV.2.2.2.2.1 e he) (hT.2.2.2.2.1 e he) _ (trS_ok (hV.2.2.2.2.2.1 a e ha he10).1 (hV.2.2.2.2.2.1 a e ha he10).2 h)) rfl rfl rfl rfl ⟨Nat.le_refl _, Nat.le_refl _⟩ (D 9 rfl) ?_
  exact j_iret C P rfl (D 10 rfl) ⟨Nat.le_refl _, Nat.le_refl _⟩ (pv_i rfl)
theorem nI_inj {a b : Nat} (ha : a < 2147483648) (hb : b < 2147483648) (h : nI a = nI b) : a = b := by
  have := i_eq.mp h
  rw [nI_int ha, nI_int hb] at this
  omega
theorem nlt {a b : Nat} (ha : a < 2147483648) (hb : b < 2147483648) : nI a < nI b ↔ a < b := by rw [i_lt, nI_int ha, nI_int hb]; omega
theorem nle {a b : Nat} (ha : a < 2147483648) (hb : b < 2147483648) : nI a ≤ nI b ↔ a ≤ b := by rw [i_le, nI_int ha, nI_int hb]; omega
theorem cnt_t {f : Nat → Bool} {n : Nat} (h : f n = true) : cnt f (n + 1) = cnt f n + 1 := by rw [cnt, if_pos h]
theorem cnt_f {f : Nat → Bool} {n : Nat} (h : ¬ f n = true) : cnt f (n + 1) = cnt f n := by rw [cnt, if_neg h]; rfl
set_option maxRecDepth 20000 in
theorem c_betterThan (l : Launch) (G : GT) {c : Nat} (hc : isC c) {I : Nat → Nat → Int32} {L : Nat → Nat → Int64} {R : Nat → Nat → Option Nat} (hL : Lay R) {V : VT} (hV : WV V) (hT : CT I c V) (a e : Nat) (ha : a < vA V) (he : e < vE V) : Mt l G mX1_betterThan (2) 0 0 [.ref (ra G c), .int (nI a), .int (nI e)] (wd I L R) (pV (.int (nI (cbS V e a))) (wd I L R)) := by
  refine mt_of (own := RX1) (by decide) rfl rfl (fun Z C P B => ?_)
  have D := @dc_of _ _ dX1_betterThan
  have he10 : e < 10 := by have := hV.1; omega
  have ha8 : a < 8 := by have := hV.2.1; omega

  have eA : I c 6 = nI (vA V) := hT.2.1
  have h8 := hV.2.1
  have Lp : ∀ (m b : Nat) (x6 : Option Value), b + m = vA V → J Z (0, 0) 13 [some (.ref (ra G c)), some (.int (nI a)), some (.int (nI e)), some (.int (vmk V a e)), some (.int (nI (cnt (betC V e a) b))), some (.int (nI b)), x6] [] (wd I L R) := by
    intro m
    induction m with
    | zero =>
      intro b x6 hb
      refine j_iload C (D 9 rfl) rfl ?_
      refine j_aload_n C (D 10 rfl) rfl ?_
      refine j_geti C f_X1_39 (sC0 hc) rfl rfl (D 11 rfl) ?_
      rw [eA]
      refine j_icmp_ge C  73 (D 12 rfl) (by decide) (fun h19 => ?_) (fun h19 => absurd h19 (fun z => z ((nle (by omega) (by omega)).mpr (by omega))))
      refine j_iload C (D 38 rfl) rfl ?_
      exact j_iret C P rfl (D 39 rfl) ⟨Nat.le_refl _, Nat.le_refl _⟩ (pv_i (by rw [cbS, show vA V = b by omega]))
    | succ m ih =>
      intro b x6 hb
      refine j_iload C (D 9 rfl) rfl ?_
      refine j_aload_n C (D 10 rfl) rfl ?_
      refine j_geti C f_X1_39 (sC0 hc) rfl rfl (D 11 rfl) ?_
      rw [eA]
      refine j_icmp_ge C  73 (D 12 rfl) (by decide) (fun h19 => absurd h19 (fun z => by rw [nle (by omega) (by omega)] at z; omega)) (fun h19 => ?_)
      refine j_aload_n C (D 13 rfl) rfl ?_
      refine j_iload C (D 14 rfl) rfl ?_
      refine j_iload_n C (D 15 rfl) rfl ?_
      refine j_cVp C B k_X1_52 (rc_obj C (sC0 hc) rfl rfl) (c_markOf _ _ hc hL hV hT b e (by omega) he10) rfl rfl rfl rfl ⟨Nat.le_refl _, Nat.le_refl _⟩ (D 16 rfl) ?_
      refine j_istore C (D 17 rfl) rfl ?_
      refine j_iload C (D 18 rfl) rfl ?_
      refine j_iconst C (v := (-1)) (D 19 rfl) rfl ?_
      refine j_icmp_eq C  67 (D 20 rfl) (by decide) (fun h34 => ?_) (fun h34 => ?_)
      · first | refine j_iinc1 C (D 36 rfl) rfl rfl ?_ | refine j_iinc C (D 36 rfl) rfl rfl rfl ?_
        refine j_goto C 13 (D 37 rfl) (by decide) ?_
        rw [← cnt_f (f := betC V e a) (n := b) (by simp only [betC, h34]; simp)]
        exact ih (b + 1) _ (by omega)
      · refine j_aload_n C (D 21 rfl) rfl ?_
        refine j_getr C f_X1_11 (sC0 hc) rfl rfl (hL _ _ _ (rC0 hc)) (D 22 rfl) ?_
        refine j_iload_n C (D 23 rfl) rfl ?_
        refine j_aald C (kd := 1) (sC1 hc) rfl (ix_n he10 (by decide)) (hL _ _ _ (rCT hc he10)) (D 24 rfl) ?_
        refine j_iload C (D 25 rfl) rfl ?_
        refine j_iload_n C (D 26 rfl) rfl ?_
        refine j_cVp C B k_X1_69 (rc_obj C (sT0 (isT_of hc he10)) rfl rfl) (c_isBetter _ _ (isT_of hc he10) hL (hV.2.2.2.2.1 e he) (hT.2.2.2.2.1 e he) _ _) rfl rfl rfl rfl ⟨Nat.le_refl _, Nat.le_refl _⟩ (D 27 rfl) ?_
        refine j_if_ne C  64 (D 28 rfl) (by decide) (fun h49 => ?_) (fun h49 => ?_)
        · first | refine j_iinc1 C (D 35 rfl) rfl rfl ?_ | refine j_iinc C (D 35 rfl) rfl rfl rfl ?_
          first | refine j_iinc1 C (D 36 rfl) rfl rfl ?_ | refine j_iinc C (D 36 rfl) rfl rfl rfl ?_
          refine j_goto C 13 (D 37 rfl) (by decide) ?_
          rw [← cnt_t (f := betC V e a) (n := b) (by simp only [betC]; rw [decide_eq_false h34, b2_ne h49]; rfl)]
          exact ih (b + 1) _ (by omega)
        · refine j_iload C (D 29 rfl) rfl ?_
          refine j_iload_n C (D 30 rfl) rfl ?_
          refine j_icmp_ne C  67 (D 31 rfl) (by decide) (fun h55 => ?_) (fun h55 => ?_)
          · first | refine j_iinc1 C (D 36 rfl) rfl rfl ?_ | refine j_iinc C (D 36 rfl) rfl rfl rfl ?_
            refine j_goto C 13 (D 37 rfl) (by decide) ?_
            rw [← cnt_f (f := betC V e a) (n := b) (by simp only [betC]; rw [decide_eq_false h34, Bool.eq_false_iff.mpr (b2_eq h49), decide_eq_false h55]; simp)]
            exact ih (b + 1) _ (by omega)
          · refine j_iload C (D 32 rfl) rfl ?_
            refine j_iload_n C (D 33 rfl) rfl ?_
            refine j_icmp_ge C  67 (D 34 rfl) (by decide) (fun h61 => ?_) (fun h61 => ?_)
            · first | refine j_iinc1 C (D 36 rfl) rfl rfl ?_ | refine j_iinc C (D 36 rfl) rfl rfl rfl ?_
              refine j_goto C 13 (D 37 rfl) (by decide) ?_
              rw [← cnt_f (f := betC V e a) (n := b) (by simp only [betC]; rw [decide_eq_false h34, Bool.eq_false_iff.mpr (b2_eq h49), decide_eq_false (p := b < a) (by rw [nle (by omega) (by omega)] at h61; omega)]; simp)]
              exact ih (b + 1) _ (by omega)
            · first | refine j_iinc1 C (D 35 rfl) rfl rfl ?_ | refine j_iinc C (D 35 rfl) rfl rfl rfl ?_
              first | refine j_iinc1 C (D 36 rfl) rfl rfl ?_ | refine j_iinc C (D 36 rfl) rfl rfl rfl ?_
              refine j_goto C 13 (D 37 rfl) (by decide) ?_
              rw [← cnt_t (f := betC V e a) (n := b) (by simp only [betC]; rw [decide_eq_false h34, decide_eq_true h55, decide_eq_true (p := b < a) (by rw [nle (by omega) (by omega)] at h61; omega)]; simp)]
              exact ih (b + 1) _ (by omega)
  refine j_aload_n C (D 0 rfl) rfl ?_
  refine j_iload_n C (D 1 rfl) rfl ?_
  refine j_iload_n C (D 2 rfl) rfl ?_
  refine j_cVp C B k_X1_52 (rc_obj C (sC0 hc) rfl rfl) (c_markOf _ _ hc hL hV hT a e ha he10) rfl rfl rfl rfl ⟨Nat.le_refl _, Nat.le_refl _⟩ (D 3 rfl) ?_
  refine j_istore_n C (D 4 rfl) rfl ?_
  refine j_iconst C (v := nI 0) (D 5 rfl) rfl ?_
  refine j_istore C (D 6 rfl) rfl ?_
  refine j_iconst C (v := nI 0) (D 7 rfl) rfl ?_
  refine j_istore C (D 8 rfl) rfl ?_
  exact Lp (vA V) 0 _ (by omega)
set_option maxRecDepth 20000 in
theorem c_athleteByMark (l : Launch) (G : GT) {c : Nat} (hc : isC c) {I : Nat → Nat → Int32} {L : Nat → Nat → Int64} {R : Nat → Nat → Option Nat} (hL : Lay R) {V : VT} (hV : WV V) (hT : CT I c V) (e : Nat) (k : Int32) (he : e < vE V) : Mt l G mX1_athleteByMark (3) 0 0 [.ref (ra G c), .int (nI e), .int k] (wd I L R) (pV (.int (kthS V e k)) (wd I L R)) := by
  refine mt_of (own := RX1) (by decide) rfl rfl (fun Z C P B => ?_)
  have D := @dc_of _ _ dX1_athleteByMark
  have he10 : e < 10 := by have := hV.1; omega
  have eA : I c 6 = nI (vA V) := hT.2.1
  have h8 := hV.2.1
  have Lp : ∀ (m a : Nat), a + m = vA V → fst1 (fun a => !decide (vmk V a e = -1) && decide (nI (cbS V e a) = k)) (vA V) 0 = fst1 (fun a => !decide (vmk V a e = -1) && decide (nI (cbS V e a) = k)) m a → J Z (0, 0) 2 [some (.ref (ra G c)), some (.int (nI e)), some (.int k), some (.int (nI a))] [] (wd I L R) := by
    intro m
    induction m with
    | zero =>
      intro a hb hf
      refine j_iload_n C (D 2 rfl) rfl ?_
      refine j_aload_n C (D 3 rfl) rfl ?_
      refine j_geti C f_X1_39 (sC0 hc) rfl rfl (D 4 rfl) ?_
      rw [eA]
      refine j_icmp_ge C  38 (D 5 rfl) (by decide) (fun h7 => ?_) (fun h7 => absurd h7 (fun z => z ((nle (by omega) (by omega)).mpr (by omega))))
      refine j_iconst C (v := (-1)) (D 22 rfl) rfl ?_
      exact j_iret C P rfl (D 23 rfl) ⟨Nat.le_refl _, Nat.le_refl _⟩ (pv_i (by rw [kthS, hf]; rfl))
    | succ m ih =>
      intro a hb hf
      refine j_iload_n C (D 2 rfl) rfl ?_
      refine j_aload_n C (D 3 rfl) rfl ?_
      refine j_geti C f_X1_39 (sC0 hc) rfl rfl (D 4 rfl) ?_
      rw [eA]
      refine j_icmp_ge C  38 (D 5 rfl) (by decide) (fun h7 => absurd h7 (fun z => by rw [nle (by omega) (by omega)] at z; omega)) (fun h7 => ?_)
      refine j_aload_n C (D 6 rfl) rfl ?_
      refine j_iload_n C (D 7 rfl) rfl ?_
      refine j_iload_n C (D 8 rfl) rfl ?_
      refine j_cVp C B k_X1_52 (rc_obj C (sC0 hc) rfl rfl) (c_markOf _ _ hc hL hV hT a e (by omega) he10) rfl rfl rfl rfl ⟨Nat.le_refl _, Nat.le_refl _⟩ (D 9 rfl) ?_
      refine j_iconst C (v := (-1)) (D 10 rfl) rfl ?_
      refine j_icmp_eq C  32 (D 11 rfl) (by decide) (fun h17 => ?_) (fun h17 => ?_)
      · first | refine j_iinc1 C (D 20 rfl) rfl rfl ?_ | refine j_iinc C (D 20 rfl) rfl rfl rfl ?_
        refine j_goto C 2 (D 21 rfl) (by decide) ?_
        exact ih (a + 1) (by omega) (by rw [hf, fst1, if_neg (by simp [h17])])
      · refine j_aload_n C (D 12 rfl) rfl ?_
        refine j_iload_n C (D 13 rfl) rfl ?_
        refine j_iload_n C (D 14 rfl) rfl ?_
        refine j_cVp C B k_X1_66 (rc_obj C (sC0 hc) rfl rfl) (c_betterThan _ _ hc hL hV hT a e (by omega) he) rfl rfl rfl rfl ⟨Nat.le_refl _, Nat.le_refl _⟩ (D 15 rfl) ?_
        refine j_iload_n C (D 16 rfl) rfl ?_
        refine j_icmp_ne C  32 (D 17 rfl) (by decide) (fun h27 => ?_) (fun h27 => ?_)
        · first | refine j_iinc1 C (D 20 rfl) rfl rfl ?_ | refine j_iinc C (D 20 rfl) rfl rfl rfl ?_
          refine j_goto C 2 (D 21 rfl) (by decide) ?_
          exact ih (a + 1) (by omega) (by rw [hf, fst1, if_neg (by simp [h27])])
        · refine j_iload_n C (D 18 rfl) rfl ?_
          exact j_iret C P rfl (D 19 rfl) ⟨Nat.le_refl _, Nat.le_refl _⟩ (pv_i (by rw [kthS, hf, fst1, if_pos (by simp [h17, h27])]))
  refine j_iconst C (v := nI 0) (D 0 rfl) rfl ?_
  refine j_istore_n C (D 1 rfl) rfl ?_
  exact Lp (vA V) 0 (by omega) rfl
